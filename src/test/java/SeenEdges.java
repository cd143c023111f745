/** Promises 23 to 25 at their edges, sentence by sentence. */
final class SeenEdges {
    /** In turns of 1 rides 0 in odd minutes, 1 in even ones; by NONE 0 in 1 to 9 and 19 to 27, 1 in 10 to 18. */
    private static final String BY_TURNS = "T111C990C990";
    private static final int BAD = OneTricycle.BAD, FULL = OneTricycle.FULL, UNKNOWN = OneTricycle.UNKNOWN;

    private SeenEdges() {
    }

    static void run() {
        minutesOfWhatIsSeen();
        mostSeen();
        seeRefused();
        unsee();
        may();
        mayOfAllThatIsSeen();
        mayFromNowOn();
        mayWithLengthAsItIs();
        childrenThatAreNotThereAnyMore();
    }

    private static void mayOf(String text, int child, int n, int due) {
        OneTricycle x = Check.garden(text);
        Check.due("see(" + child + ", " + n + ")", x.see(child, n), 1);
        Check.due("may, " + child + " in " + n, x.may(), due);
    }

    private static void minutesOfWhatIsSeen() {
        Sentence.of(23, "SEEN: that IN n MINUTES (1 .. 20) from now a CHILD RIDES:");
        for (int n = 1; n <= 20; n++) {
            int byNone = n <= 9 || n >= 19 ? 0 : 1;
            int byTurns = n % 2 == 1 ? 0 : 1;
            for (int child = 0; child < 2; child++) {
                mayOf(BY_TURNS, child, n, (byNone == child ? 0b0001 : 0) | (byTurns == child ? 0b1110 : 0));
            }
        }
        OneTricycle x = Check.garden(BY_TURNS);
        for (int n : new int[] {0, 21, -1, Integer.MIN_VALUE, Integer.MAX_VALUE}) {
            Check.due("see(0, " + n + ")", x.see(0, n), BAD);
        }
        Check.about(x, "nothing is SEEN", 11, 0);
    }

    private static void mostSeen() {
        Sentence.of(23, "6 such at most, none at first");
        OneTricycle x = Check.garden(BY_TURNS);
        Check.about(x, "none at first", 11, 0);
        for (int count = 1; count <= 6; count++) {
            Check.due("see", x.see(0, 1), count);
            Check.about(x, "SEEN", 11, count);
        }
        for (int k = 0; k < 3; k++) {
            Check.due("a seventh one", x.see(1, 1), FULL);
            Check.about(x, "SEEN", 11, 6);
        }
        Check.due("the seventh one is not looked at", x.may(), 0b1111);
        Sentence.of(23, "SEEN: how many there are.");
        Check.due("unsee", x.unsee(), 6);
        Check.due("see", x.see(1, 20), 1);
        Check.due("the same once more", x.see(1, 20), 2);
    }

    private static void seeRefused() {
        Sentence.of(23, "UNKNOWN; BAD: n; FULL: 6.");
        OneTricycle x = Check.garden(BY_TURNS);
        for (int round = 0; round < 2; round++) {
            for (int child : new int[] {-1, 2, 5, Integer.MIN_VALUE, Integer.MAX_VALUE}) {
                Check.due("see(" + child + ", 1)", x.see(child, 1), UNKNOWN);
                Check.due("see(" + child + ", 0)", x.see(child, 0), UNKNOWN);
            }
            Check.due("see(1, 0)", x.see(1, 0), BAD);
            Check.due("see(1, 21)", x.see(1, 21), BAD);
            for (int k = 0; k < 6; k++) {
                Check.due("see", x.see(k % 2, 1), round == 0 ? k + 1 : FULL);
            }
        }
        Check.due("nobody is there", new OneTricycle().see(0, 1), UNKNOWN);
    }

    private static void unsee() {
        Sentence.of(24, "Nothing is SEEN: how much there was.");
        OneTricycle x = Check.garden(BY_TURNS);
        for (int count = 0; count <= 6; count++) {
            for (int k = 0; k < count; k++) {
                x.see(1, 1);
            }
            Check.due("may", x.may(), count == 0 ? 0b1111 : 0);
            Check.due("unsee", x.unsee(), count);
            Check.about(x, "nothing is SEEN", 11, 0);
            Check.due("may, nothing is SEEN", x.may(), 0b1111);
        }
        Check.due("unsee once more", x.unsee(), 0);
        Check.due("a new object", new OneTricycle().unsee(), 0);
    }

    private static void may() {
        Sentence.of(25, "MAY, as bits.");
        Check.due("a new object", new OneTricycle().may(), 0b1111);
        // by NONE 1, of greatest MIGHT; by SAND and the LINE 0, then 1; by the LIST 0, then 1, then the SHY one
        String text = "T021C910C990C992";
        mayOf(text, 0, 1, 0b1110);
        mayOf(text, 1, 1, 0b0001);
        mayOf(text, 1, 2, 0b0001);
        mayOf(text, 1, 3, 0b1111);
        mayOf(text, 2, 5, 0b1000);
        mayOf(text, 2, 4, 0b0000);
        // 2 has RIDDEN least, has STARED most, and is behind LAST, but others are as strong
        OneTricycle x = Check.garden("T192C990C990C990");
        Check.minutes(x, "two RIDE", 3, 3);
        Check.due("put", x.put(), 1);
        Check.due("give", x.give(0, 1), 2);
        Check.minutes(x, "1 RIDES", 2);
        Check.due("push", x.push(1), 1);
        Check.due("see", x.see(2, 1), 1);
        Check.due("SAND, the LINE, the LIST, not NONE", x.may(), 0b1110);
    }

    private static void mayOfAllThatIsSeen() {
        Sentence.of(25, "MAY: RULES (bits 0 .. 3) by which, with LENGTH as it is, from now on all that is SEEN is so.");
        for (int wrong = 0; wrong < 6; wrong++) {
            OneTricycle x = Check.garden(BY_TURNS);
            for (int k = 0; k < 6; k++) {
                x.see(k == wrong ? 1 : 0, 1);
            }
            Check.due("one of six is not so", x.may(), 0);
        }
        OneTricycle x = Check.garden(BY_TURNS);
        x.see(0, 19);
        Check.due("0 in 19", x.may(), 0b1111);
        x.see(1, 20);
        Check.due("0 in 19, 1 in 20", x.may(), 0b1110);
        x.see(1, 10);
        Check.due("0 in 19, 1 in 20 and 10", x.may(), 0b1110);
        x.see(1, 9);
        Check.due("and in 9", x.may(), 0);
        x = Check.garden("T112C990C990");
        x.see(0, 1);
        x.see(1, 1);
        Check.due("two in the same minute on two THINGS", x.may(), 0b1111);
        x.put();
        Check.due("two in the same minute on one", x.may(), 0);
    }

    private static void mayFromNowOn() {
        Sentence.of(25, "from now on all that is SEEN is so.");
        OneTricycle x = Check.garden(BY_TURNS);
        x.see(0, 1);
        Check.due("0 comes", x.may(), 0b1111);
        Check.minutes(x, "0 RIDES", 1);
        Check.due("from now on 1 comes, but by NONE", x.may(), 0b0001);
        Check.minutes(x, "1 RIDES", 2);
        Check.due("from now on 0 comes, but by NONE", x.may(), 0b1110);
        Check.due("undo", x.undo(), 1);
        Check.due("as it was", x.may(), 0b0001);
    }

    private static void mayWithLengthAsItIs() {
        Sentence.of(25, "with LENGTH as it is, from now on");
        for (int length = 1; length <= 9; length++) {
            mayOf("T1" + length + "1C990C990", 0, length, 0b1111);
            mayOf("T1" + length + "1C990C990", 1, length + 1, length == 9 ? 0b1111 : 0b1110);
        }
    }

    private static void childrenThatAreNotThereAnyMore() {
        Sentence.of(25, "(of CHILDREN that there are not any more nothing is looked at).");
        OneTricycle x = Check.garden("T111C490C490C490C490C490");
        for (int child = 0; child < 5; child++) {
            x.see(child, 1);
        }
        Check.due("nobody RIDES", x.may(), 0);
        for (int count = 0; count <= 5; count++) {
            Check.type(x, "T111C990C490C490C490C490".substring(0, 4 + 4 * count));
            Check.due("garden", x.garden(), count);
            Check.due("0 RIDES, others do not, of " + count, x.may(), count <= 1 ? 0b1111 : 0);
            Check.about(x, "they stay SEEN", 11, 5);
        }
        x.unsee();
        Check.due("see", x.see(4, 1), 1);
        Check.type(x, "T111C490C490C490C490");
        Check.due("garden", x.garden(), 4);
        Check.due("4 is not there any more", x.may(), 0b1111);
        Check.due("so it can not be SEEN", x.see(4, 1), UNKNOWN);
        Check.due("see", x.see(3, 1), 2);
        Check.due("3 is there", x.may(), 0);
    }
}
