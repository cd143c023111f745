/** Promises 1 to 7: a new object, THE TEXT, FAULT, THE GARDEN, and what is told about it. */
public final class GardenTest {
    private static final String FIVE = "T021C950C631C772C813C390";

    public static void main(String[] args) {
        newObject();
        write();
        wipe();
        fault();
        garden();
        gardenRefused();
        gardenMadeAnew();
        about();
        aboutWhoAsks();
        aboutNext();
        child();
        Check.end("GardenTest");
    }

    private static void newObject() {
        OneTricycle x = new OneTricycle();
        int[] due = {0, 0, 1, 1, 0, 0, 0, OneTricycle.NONE, OneTricycle.NONE, 0, 0, 0, 0};
        for (int what = 0; what < due.length; what++) {
            Check.about(x, "new", what, due[what]);
        }
        Check.child(x, "new", 0, 0, OneTricycle.UNKNOWN);
        Check.due("new: undo", x.undo(), OneTricycle.LATE);
        Check.due("new: again(0)", x.again(0), OneTricycle.LATE);
        Check.due("new: again(1)", x.again(1), OneTricycle.LATE);
        Check.due("new: seed", x.seed(3), 0);
        Check.due("new: unsee", x.unsee(), 0);
        Check.due("new: minute", x.minute(), 0);
        Check.about(x, "new, a minute on", 9, 1);
    }

    private static void write() {
        OneTricycle x = new OneTricycle();
        Check.due("write(0)", x.write(0), 1);
        Check.due("write(255)", x.write(255), 2);
        Check.due("write(256)", x.write(256), OneTricycle.BAD);
        Check.due("write(-1)", x.write(-1), OneTricycle.BAD);
        Check.due("write(least)", x.write(Integer.MIN_VALUE), OneTricycle.BAD);
        Check.due("write(greatest)", x.write(Integer.MAX_VALUE), OneTricycle.BAD);
        Check.about(x, "refused bytes", 12, 2);
        for (int length = 3; length <= 32; length++) {
            Check.due("write", x.write('T'), length);
        }
        Check.due("write, full", x.write('T'), OneTricycle.FULL);
        Check.due("write, full and bad", x.write(256), OneTricycle.BAD);
        Check.about(x, "full", 12, 32);
        Check.due("full: fault", x.fault(), 0);
        Check.due("full: wipe", x.wipe(), 32);
        Check.due("wiped: write", x.write('T'), 1);
    }

    private static void wipe() {
        OneTricycle x = new OneTricycle();
        Check.due("wipe, empty", x.wipe(), 0);
        Check.type(x, FIVE);
        Check.due("garden", x.garden(), 5);
        Check.due("wipe, 24", x.wipe(), 24);
        Check.about(x, "wiped", 12, 0);
        Check.about(x, "wiped: THE GARDEN stays", 0, 5);
        Check.due("wipe again", x.wipe(), 0);
        Check.due("wiped: fault", x.fault(), 0);
    }

    private static void faultOf(String text, int due) {
        OneTricycle x = new OneTricycle();
        Check.type(x, text);
        Check.due("fault of " + text, x.fault(), due);
        Check.due("garden of " + text, x.garden(), due == OneTricycle.NONE ? (text.length() - 4) / 4 : OneTricycle.LATE);
        Check.about(x, "fault changes nothing in " + text, 12, text.length());
    }

    private static void fault() {
        String[] whole = {"T011", "T392", "T091C010", "T011C993", "T011C010C010", FIVE};
        for (String text : whole) {
            faultOf(text, OneTricycle.NONE);
        }
        String[] notAtItsEnd = {"", "T", "T0", "T3", "T01", "T39", "T011C", "T011C0", "T011C9", "T011C01",
            "T011C99", "T011C010C", "T011C010C9", "T021C950C631C772C813C39"};
        for (String text : notAtItsEnd) {
            faultOf(text, text.length());
        }
        faultOf("t", 0);
        faultOf("0", 0);
        faultOf("C010", 0);
        faultOf("T4", 1);
        faultOf("T/", 1);
        faultOf("TT", 1);
        faultOf("T00", 2);
        faultOf("T0:", 2);
        faultOf("T010", 3);
        faultOf("T013", 3);
        faultOf("T011c", 4);
        faultOf("T011T", 4);
        faultOf("T0111", 4);
        faultOf("T011C:", 5);
        faultOf("T011C/", 5);
        faultOf("T011C00", 6);
        faultOf("T011C0:", 6);
        faultOf("T011C014", 7);
        faultOf("T011C01/", 7);
        faultOf("T011C010c", 8);
        faultOf("T011C010C0100", 12);
        faultOf(FIVE + "C", 24);
        faultOf(FIVE + "C010", 24);
        faultOf(FIVE + "x", 24);
        faultOf(FIVE + "C010C010", 24);
        faultOf("T4T00", 1);
        faultOf("T011C00C0", 6);
        faultOf("T" + (char) 0, 1);
        faultOf("T011" + (char) 255, 4);
    }

    private static void garden() {
        OneTricycle x = Check.garden("T392C071C993");
        int[] due = {2, 3, 9, 2, 0, 2, 2, 1, OneTricycle.NONE, 0, 0, 0, 12};
        for (int what = 0; what < due.length; what++) {
            Check.about(x, "T392C071C993", what, due[what]);
        }
        int[][] dueOfChildren = {{0, 7, 1, 9, 0, 0, 0, 0, 0}, {9, 9, 3, 9, 0, 0, 0, 0, 0}};
        for (int child = 0; child < 2; child++) {
            for (int what = 0; what <= 8; what++) {
                Check.child(x, "T392C071C993", child, what, dueOfChildren[child][what]);
            }
        }
        OneTricycle nobody = Check.garden("T251");
        Check.about(nobody, "T251", 0, 0);
        Check.about(nobody, "T251", 1, 2);
        Check.about(nobody, "T251", 2, 5);
    }

    private static void gardenRefused() {
        OneTricycle x = Check.garden("T121C910C910");
        x.minute();
        x.keep(1);
        x.see(1, 4);
        x.seed(77);
        x.put();
        x.write('x');
        String before = Check.told(x);
        Check.due("garden, a FAULT", x.garden(), OneTricycle.LATE);
        Check.same("garden refused", Check.told(x), before);
        Check.due("garden refused: seed", x.seed(77), 77);
        Check.due("garden refused: undo", x.undo(), 1);
        Check.due("garden refused: again", x.again(1), 1);
    }

    private static void gardenMadeAnew() {
        OneTricycle x = Check.garden("T121C910C910C540");
        for (int k = 0; k < 4; k++) {
            x.minute();
        }
        x.push(1);
        x.put();
        Check.holds("two RIDE", Integer.bitCount(x.minute()) == 2);
        x.keep(0);
        x.keep(1);
        x.see(2, 20);
        x.see(0, 1);
        x.seed(-5);
        Check.due("garden once more", x.garden(), 3);
        OneTricycle fresh = Check.garden("T121C910C910C540");
        fresh.see(2, 20);
        fresh.see(0, 1);
        Check.same("made anew", Check.told(x), Check.told(fresh));
        Check.about(x, "made anew: no ACTS", 10, 0);
        Check.about(x, "made anew: SEEN stays", 11, 2);
        Check.about(x, "made anew: THE TEXT stays", 12, 16);
        Check.due("made anew: undo", x.undo(), OneTricycle.LATE);
        Check.due("made anew: again(0)", x.again(0), OneTricycle.LATE);
        Check.due("made anew: again(1)", x.again(1), OneTricycle.LATE);
        Check.due("made anew: THE SEED stays", x.seed(0), -5);
        Check.type(x, "T211");
        Check.due("garden of nobody", x.garden(), 0);
        Check.child(x, "nobody", 0, 0, OneTricycle.UNKNOWN);
        Check.about(x, "nobody", 4, 0);
        Check.about(x, "nobody", 5, 0);
        Check.about(x, "nobody", 6, 0);
        Check.about(x, "nobody", 7, OneTricycle.NONE);
        Check.due("nobody: minute", x.minute(), 0);
    }

    private static void about() {
        OneTricycle x = Check.garden("T192C920C820C720");
        Check.due("minute", x.minute(), 3);
        Check.due("see", x.see(0, 1), 1);
        int[] due = {3, 1, 9, 2, 3, 4, 4, 2, 1, 1, 1, 1, 16};
        for (int what = 0; what < due.length; what++) {
            Check.about(x, "T192 a minute on", what, due[what]);
        }
        Check.about(x, "T192", -1, OneTricycle.BAD);
        Check.about(x, "T192", 13, OneTricycle.BAD);
        Check.about(x, "T192", Integer.MIN_VALUE, OneTricycle.BAD);
        Check.about(x, "T192", Integer.MAX_VALUE, OneTricycle.BAD);
    }

    private static void aboutWhoAsks() {
        OneTricycle x = Check.garden("T011C410C510C512C912C511");
        Check.about(x, "WISHES 4 5 5 9 5", 5, 0b11110);
        Check.about(x, "SHY ones do not ASK", 6, 0b10010);
        Check.due("rule SAND", x.rule(1, 1), 0);
        Check.about(x, "by SAND", 6, 0b10010);
        Check.due("rule LINE", x.rule(2, 1), 1);
        Check.about(x, "by the LINE", 6, 0b10010);
        Check.due("rule LIST", x.rule(3, 1), 2);
        Check.about(x, "by the LIST SHY ones ASK", 6, 0b11110);
        Check.about(x, "by the LIST", 5, 0b11110);
        Check.due("minute", x.minute(), 0b00010);
        Check.about(x, "who RIDES does not WANT", 5, 0b11101);
        Check.about(x, "who RIDES does not ASK", 6, 0b11101);
    }

    private static void aboutNext() {
        OneTricycle x = Check.garden("T011C950C931C950C940C962");
        Check.about(x, "by NONE, MIGHTS 5 5 5 4, SHY 6", 7, 0);
        x = Check.garden("T011C440C950C941C972C960");
        Check.about(x, "by NONE, MIGHTS 5 6 6 of those that ASK", 7, 2);
        x = Check.garden("T111C990C990C990");
        Check.about(x, "by SAND, nobody has RIDDEN", 7, 0);
        Check.minutes(x, "by SAND", 1);
        Check.about(x, "by SAND, 1 0 0 RIDDEN", 7, 1);
        Check.minutes(x, "by SAND", 2);
        Check.about(x, "by SAND, 1 1 0 RIDDEN", 7, 2);
        Check.minutes(x, "by SAND", 4);
        Check.about(x, "by SAND, 1 1 1 RIDDEN, 2 RIDES", 7, 0);
        x = Check.garden("T211C390C990C490");
        Check.minutes(x, "by the LINE", 2);
        Check.about(x, "by the LINE, 0 1 STARED since, one ASKS", 7, 2);
        x = Check.garden("T291C990C490C990");
        Check.minutes(x, "by the LINE, 9 minutes", 1, 1);
        Check.about(x, "by the LINE, 2 2 STARED since", 7, 1);
        x = Check.garden("T311C990C912C190C990");
        Check.about(x, "by the LIST, nobody was LAST", 7, 0);
        Check.minutes(x, "by the LIST", 1);
        Check.about(x, "by the LIST, 0 was LAST", 7, 1);
        Check.minutes(x, "by the LIST", 2);
        Check.about(x, "by the LIST, 1 was LAST, 2 does not WANT", 7, 3);
        Check.minutes(x, "by the LIST", 8);
        Check.about(x, "by the LIST, 3 was LAST: round and round", 7, 0);
        x = Check.garden("T311C440");
        Check.about(x, "nobody ASKS", 7, OneTricycle.NONE);
        x = Check.garden("T011C942");
        Check.about(x, "only a SHY one WANTS", 7, OneTricycle.NONE);
        x.rule(3, 1);
        Check.about(x, "by the LIST a SHY one is NEXT", 7, 0);
        x.minute();
        x.push(0);
        Check.about(x, "LAST itself comes last, but comes", 8, 0);
        Check.about(x, "LAST itself comes last, but comes", 7, 0);
    }

    private static void child() {
        OneTricycle x = Check.garden("T041C510C431C952C753");
        int[][] atFirst = {{5, 1, 0, 1}, {4, 3, 1, 5}, {9, 5, 2, 5}, {7, 5, 3, 5}};
        for (int child = 0; child < 4; child++) {
            for (int what = 0; what < 4; what++) {
                Check.child(x, "at first", child, what, atFirst[child][what]);
            }
        }
        Check.minutes(x, "by NONE", 8, 8);
        int[][] due = {{7, 1, 0, 1, 0, 0, 2, 2, 0}, {6, 3, 1, 5, 0, 0, 2, 2, 0}, {9, 5, 2, 5, 0, 0, 2, 2, 0},
            {5, 5, 3, 5, 2, 2, 0, 0, 0}};
        for (int child = 0; child < 4; child++) {
            for (int what = 0; what <= 8; what++) {
                Check.child(x, "two minutes on", child, what, due[child][what]);
            }
        }
        Check.due("give", x.give(3, 0), 2);
        Check.child(x, "given: it does not RIDE", 3, 4, 0);
        Check.child(x, "given: it has RIDDEN", 3, 5, 2);
        Check.child(x, "given: STARED in all", 0, 6, 2);
        Check.child(x, "given: STARED since it rode", 0, 7, 0);
        Check.minutes(x, "given, then by NONE: of like ones the least", 2);
        Check.child(x, "pushed off: HOWLED", 0, 8, 1);
        Check.child(x, "pushed off: STARED in all", 0, 6, 3);
        Check.child(x, "pushed off: STARED since it rode", 0, 7, 1);
        int[] wrongOnes = {-1, 4, 5, Integer.MIN_VALUE, Integer.MAX_VALUE};
        for (int wrong : wrongOnes) {
            Check.child(x, "no such CHILD", wrong, 0, OneTricycle.UNKNOWN);
            Check.child(x, "no such CHILD, and bad", wrong, 9, OneTricycle.UNKNOWN);
        }
        Check.child(x, "bad", 3, -1, OneTricycle.BAD);
        Check.child(x, "bad", 3, 9, OneTricycle.BAD);
        Check.child(x, "bad", 0, Integer.MAX_VALUE, OneTricycle.BAD);
    }
}
