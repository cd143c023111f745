/** Promises 30 and 31 at their edges, sentence by sentence. */
final class SlotsEdges {
    private static final int UNKNOWN = OneTricycle.UNKNOWN, LATE = OneTricycle.LATE;

    private SlotsEdges() {
    }

    static void run() {
        whatIsKept();
        whatIsNotKept();
        keep();
        twoSlots();
        again();
        noneWereKept();
        keptIsGoneWithTheGarden();
    }

    /** 0 and 1 RIDE two THINGS by SAND, 2 stares; two MINUTES, and so two ACTS. */
    private static OneTricycle twoRide() {
        OneTricycle x = Check.garden("T192C990C990C990");
        Check.minutes(x, "two RIDE", 3, 3);
        return x;
    }

    private static void asTwoRide(OneTricycle x) {
        int[] about = {3, 1, 9, 2, 3, 4, 4, 2, 1, 2};
        for (int what = 0; what < about.length; what++) {
            Check.about(x, "as kept", what, about[what]);
        }
        int[][] due = {{7, 9, 0, 9, 2, 2, 0, 0, 0}, {7, 9, 0, 9, 2, 2, 0, 0, 0}, {9, 9, 0, 9, 0, 0, 2, 2, 0}};
        for (int child = 0; child < 3; child++) {
            for (int what = 0; what <= 8; what++) {
                Check.child(x, "as kept", child, what, due[child][what]);
            }
        }
    }

    private static void whatIsKept() {
        Sentence.of(30, "SLOTS 0 .. 1 keep WISHES, who RIDES, rode how long, what all have RIDDEN, STARED, HOWLED, who was LAST, "
            + "the RULE, LENGTH, THINGS, THE MINUTE (no ACTS when one goes on).");
        OneTricycle x = twoRide();
        Check.due("keep", x.keep(0), 2);
        Check.due("keep", x.keep(1), 2);
        Check.due("call", x.call(2), 9);
        Check.due("push", x.push(0), 1);
        Check.due("give", x.give(1, 2), 2);
        Check.due("rule", x.rule(3, 4), 1);
        Check.due("put", x.put(), 1);
        Check.due("minute", x.minute(), 1);
        for (int slot = 0; slot <= 1; slot++) {
            Check.due("again", x.again(slot), 2);
            asTwoRide(x);
            Check.about(x, "no ACTS", 10, 0);
            Check.due("no ACTS", x.undo(), LATE);
            Check.minutes(x, "on", 3, 3, 3);
            Check.about(x, "ACTS from there on", 10, 3);
        }
    }

    private static void whatIsNotKept() {
        Sentence.of(31, "(no ACTS when one goes on).");
        OneTricycle x = twoRide();
        x.seed(5);
        x.see(0, 1);
        x.keep(0);
        Check.about(x, "ACTS stay when one keeps", 10, 2);
        x.seed(6);
        x.see(1, 1);
        x.write('x');
        Check.due("again", x.again(0), 2);
        Check.due("THE SEED stays", x.seed(0), 6);
        Check.about(x, "SEEN stays", 11, 2);
        Check.about(x, "THE TEXT stays", 12, 17);
        Check.about(x, "no ACTS", 10, 0);
    }

    private static void keep() {
        Sentence.of(30, "They are kept: THE MINUTE.");
        OneTricycle x = Check.garden("T191C990C990");
        for (int minute = 0; minute <= 3; minute++) {
            Check.due("keep(0)", x.keep(0), minute);
            Check.due("keep(1)", x.keep(1), minute);
            Check.about(x, "keep is no ACT", 10, minute);
            x.minute();
        }
        Check.due("what was kept last", x.again(0), 3);
        Sentence.of(30, "UNKNOWN.");
        for (int slot : new int[] {-1, 2, Integer.MIN_VALUE, Integer.MAX_VALUE}) {
            Check.due("keep(" + slot + ")", x.keep(slot), UNKNOWN);
        }
        Check.due("nobody is there", new OneTricycle().keep(1), 0);
    }

    private static void twoSlots() {
        Sentence.of(30, "SLOTS 0 .. 1 keep WISHES");
        OneTricycle x = Check.garden("T191C990C990");
        Check.minutes(x, "on", 1);
        Check.due("keep(0)", x.keep(0), 1);
        Check.minutes(x, "on", 1);
        Check.due("keep(1)", x.keep(1), 2);
        Check.minutes(x, "on", 1);
        Check.due("again(0)", x.again(0), 1);
        Check.child(x, "WISH", 0, 0, 8);
        Check.due("again(1)", x.again(1), 2);
        Check.child(x, "WISH", 0, 0, 7);
        Check.due("again(0) once more", x.again(0), 1);
        Check.child(x, "WISH", 0, 0, 8);
    }

    private static void again() {
        Sentence.of(31, "They are as they were kept: THE MINUTE.");
        OneTricycle x = twoRide();
        Check.due("keep", x.keep(1), 2);
        for (int round = 0; round < 3; round++) {
            x.minute();
            x.push(0);
            x.put();
            Check.due("again", x.again(1), 2);
            asTwoRide(x);
        }
        OneTricycle nobody = new OneTricycle();
        nobody.minute();
        Check.due("keep of nobody", nobody.keep(0), 1);
        nobody.minute();
        Check.due("again of nobody", nobody.again(0), 1);
    }

    private static void noneWereKept() {
        Sentence.of(31, "UNKNOWN; LATE: none were kept.");
        OneTricycle x = twoRide();
        for (int slot : new int[] {-1, 2, Integer.MIN_VALUE, Integer.MAX_VALUE}) {
            Check.due("again(" + slot + ")", x.again(slot), UNKNOWN);
        }
        for (int slot = 0; slot <= 1; slot++) {
            x = twoRide();
            Check.due("none were kept", x.again(slot), LATE);
            Check.due("keep the other one", x.keep(1 - slot), 2);
            Check.due("none were kept here", x.again(slot), LATE);
            Check.due("but there", x.again(1 - slot), 2);
            Check.due("keep", x.keep(slot), 2);
            Check.due("again", x.again(slot), 2);
        }
    }

    private static void keptIsGoneWithTheGarden() {
        Sentence.of(31, "LATE: none were kept.");
        OneTricycle x = twoRide();
        x.keep(0);
        x.keep(1);
        x.write('x');
        Check.due("a garden refused", x.garden(), LATE);
        Check.due("they are kept", x.again(0), 2);
        Check.type(x, "T192C990C990C990");
        Check.due("garden", x.garden(), 3);
        Check.due("they are gone", x.again(0), LATE);
        Check.due("they are gone", x.again(1), LATE);
        Check.due("keep", x.keep(1), 0);
        Check.due("again", x.again(1), 0);
    }
}
