import java.util.function.Supplier;
import java.util.function.ToLongFunction;

/** Every refusal of promises 1 to 31: which one of several it is, and that nothing is changed. */
final class Refusals {
    private static final int UNKNOWN = OneTricycle.UNKNOWN, BAD = OneTricycle.BAD, LATE = OneTricycle.LATE, FULL = OneTricycle.FULL;
    /** There are the CHILDREN 0 to 2. */
    private static final int[] NO_CHILD = {-1, 3, 4, 5, 32, Integer.MIN_VALUE, Integer.MAX_VALUE};
    private static final int[] NO_SLOT = {-1, 2, 3, Integer.MIN_VALUE, Integer.MAX_VALUE};

    private Refusals() {
    }

    static void run() {
        numbers();
        toldFirst();
        write();
        garden();
        aboutAndChild();
        give();
        push();
        call();
        rule();
        undo();
        ahead();
        by();
        best();
        firstSecondShare();
        judge();
        see();
        rests();
        chance();
        days();
        slots();
        looking();
    }

    private static void refused(String call, Supplier<OneTricycle> made, ToLongFunction<OneTricycle> asked, int due) {
        Whole.unchanged(call, made, asked, due);
    }

    private static void numbers() {
        Sentence.of(2, "REFUSALS: UNKNOWN -1 (there is no such CHILD, SLOT), BAD -2, LATE -3, FULL -4.");
        Check.due("BAD", Played.one().write(256), -2);
        Check.due("FULL", Played.fullText().write(0), -4);
        Check.due("no such CHILD", Played.one().push(3), -1);
        Check.due("no such SLOT", Played.one().again(2), -1);
        Check.due("LATE", Played.one().push(1), -3);
        Sentence.of(4, "NONE is -9.");
        Check.due("NONE", Played.one().fault(), -9);
    }

    private static void toldFirst() {
        Sentence.of(9, "Of several what is told first.");
        Check.due("write: BAD, FULL", Played.fullText().write(256), BAD);
        Check.due("child: UNKNOWN, BAD", Played.one().child(3, 9), UNKNOWN);
        Check.due("give: UNKNOWN, BAD", Played.one().give(3, 3), UNKNOWN);
        Check.due("give: UNKNOWN, LATE", Played.one().give(1, 3), UNKNOWN);
        Check.due("give: BAD, LATE", Played.one().give(1, 1), BAD);
        Check.due("see: UNKNOWN, BAD, FULL", Played.allSeen().see(3, 21), UNKNOWN);
        Check.due("see: UNKNOWN, FULL", Played.allSeen().see(3, 20), UNKNOWN);
        Check.due("see: BAD, FULL", Played.allSeen().see(0, 21), BAD);
        Check.due("rests: UNKNOWN, BAD", Played.one().rests(3, 3, 2), UNKNOWN);
        Check.due("chance: UNKNOWN, BAD", Played.one().chance(3, 7, 11, true), UNKNOWN);
        Check.due("again: UNKNOWN, LATE", Played.noneKept().again(2), UNKNOWN);
        Sentence.of(9, "What is refused changes nothing.");
        refused("give, BAD", Played::one, x -> x.give(0, 0), BAD);
    }

    private static void write() {
        Sentence.of(2, "BAD; FULL: there are 32.");
        for (int letter : new int[] {-1, 256, Integer.MIN_VALUE, Integer.MAX_VALUE}) {
            refused("write(" + letter + ")", Played::one, x -> x.write(letter), BAD);
            refused("write(" + letter + "), full", Played::fullText, x -> x.write(letter), BAD);
        }
        for (int letter : new int[] {0, 'T', 255}) {
            refused("write(" + letter + "), full", Played::fullText, x -> x.write(letter), FULL);
        }
    }

    private static void garden() {
        Sentence.of(5, "LATE: a FAULT.");
        String whole = "T192C990C990C990C990C990";
        for (int length = 0; length <= 23; length++) {
            if (length < 4 || length % 4 != 0) {
                String text = whole.substring(0, length);
                refused("garden of " + text, () -> Played.typed(text), x -> x.garden(), LATE);
            }
        }
        for (String text : new String[] {"x192", "T492", "T102", "T193", "T192c990", "T192C:90", "T192C900", "T192C994", whole + "C"}) {
            refused("garden of " + text, () -> Played.typed(text), x -> x.garden(), LATE);
        }
        refused("garden of a full TEXT", Played::fullText, x -> x.garden(), LATE);
    }

    private static void aboutAndChild() {
        Sentence.of(6, "BAD.");
        for (int what : new int[] {-1, 13, Integer.MIN_VALUE, Integer.MAX_VALUE}) {
            refused("about(" + what + ")", Played::one, x -> x.about(what), BAD);
        }
        Sentence.of(7, "UNKNOWN; BAD.");
        for (int child : NO_CHILD) {
            refused("child(" + child + ", 0)", Played::one, x -> x.child(child, 0), UNKNOWN);
            refused("child(" + child + ", 9)", Played::one, x -> x.child(child, 9), UNKNOWN);
        }
        for (int what : new int[] {-1, 9, Integer.MIN_VALUE, Integer.MAX_VALUE}) {
            refused("child(0, " + what + ")", Played::one, x -> x.child(0, what), BAD);
        }
    }

    private static void give() {
        Sentence.of(9, "UNKNOWN: child, other; BAD: both are one; LATE: it does not RIDE, or the other one does.");
        for (int wrong : NO_CHILD) {
            refused("give(" + wrong + ", 1)", Played::one, x -> x.give(wrong, 1), UNKNOWN);
            refused("give(0, " + wrong + ")", Played::one, x -> x.give(0, wrong), UNKNOWN);
            refused("give(1, " + wrong + ")", Played::one, x -> x.give(1, wrong), UNKNOWN);
            refused("give(" + wrong + ", " + wrong + ")", Played::one, x -> x.give(wrong, wrong), UNKNOWN);
        }
        for (int child = 0; child < 3; child++) {
            int both = child;
            refused("give(" + both + ", " + both + ")", Played::one, x -> x.give(both, both), BAD);
        }
        refused("give(1, 2), neither RIDES", Played::one, x -> x.give(1, 2), LATE);
        refused("give(1, 0), the other one RIDES", Played::one, x -> x.give(1, 0), LATE);
        refused("give(0, 1), both RIDE", Played::two, x -> x.give(0, 1), LATE);
        refused("give(1, 0), both RIDE", Played::two, x -> x.give(1, 0), LATE);
        refused("give(2, 0), the other one RIDES", Played::two, x -> x.give(2, 0), LATE);
        Check.due("give(0, 1)", Played.one().give(0, 1), 1);
        Check.due("give(1, 2)", Played.two().give(1, 2), 1);
    }

    private static void push() {
        Sentence.of(10, "UNKNOWN; LATE: it does not RIDE.");
        for (int child : NO_CHILD) {
            refused("push(" + child + ")", Played::one, x -> x.push(child), UNKNOWN);
        }
        refused("push(1)", Played::one, x -> x.push(1), LATE);
        refused("push(2)", Played::one, x -> x.push(2), LATE);
        refused("push(2), two RIDE", Played::two, x -> x.push(2), LATE);
        Check.due("push(0)", Played.one().push(0), 1);
        Check.due("push(1), two RIDE", Played.two().push(1), 1);
    }

    private static void call() {
        Sentence.of(11, "UNKNOWN; LATE: it RIDES, or has none.");
        for (int child : NO_CHILD) {
            refused("call(" + child + ")", Played::one, x -> x.call(child), UNKNOWN);
        }
        refused("call(0), it RIDES", Played::one, x -> x.call(0), LATE);
        refused("call(1), it RIDES", Played::two, x -> x.call(1), LATE);
        refused("call(2), it has no WISH", Played::one, x -> x.call(2), LATE);
        Check.due("call(1)", Played.one().call(1), 9);
        OneTricycle x = Played.one();
        x.minute();
        Check.due("call(2), it has a WISH of 1", x.call(2), 1);
    }

    private static void rule() {
        Sentence.of(12, "BAD: rule (0 .. 3), length (1 .. 9); LATE: both are so.");
        for (int rule : new int[] {-1, 4, Integer.MIN_VALUE, Integer.MAX_VALUE}) {
            refused("rule(" + rule + ", 9)", Played::one, x -> x.rule(rule, 9), BAD);
        }
        for (int length : new int[] {-1, 0, 10, Integer.MIN_VALUE, Integer.MAX_VALUE}) {
            refused("rule(1, " + length + ")", Played::one, x -> x.rule(1, length), BAD);
        }
        refused("rule(1, 9), both are so", Played::one, x -> x.rule(1, 9), LATE);
        Check.due("rule(1, 8), the RULE is so", Played.one().rule(1, 8), 1);
        Check.due("rule(2, 9), LENGTH is so", Played.one().rule(2, 9), 1);
        Check.due("rule(0, 1)", Played.one().rule(0, 1), 1);
        Check.due("rule(3, 9)", Played.one().rule(3, 9), 1);
    }

    private static void undo() {
        Sentence.of(14, "LATE: there is none.");
        refused("undo", Played::noActs, x -> x.undo(), LATE);
        refused("undo", OneTricycle::new, x -> x.undo(), LATE);
        Check.due("undo", Played.one().undo(), 13);
    }

    private static void ahead() {
        Sentence.of(15, "BAD: n, what.");
        for (int n : new int[] {-1, 61, Integer.MIN_VALUE, Integer.MAX_VALUE}) {
            refused("ahead(" + n + ", 0)", Played::one, x -> x.ahead(n, 0), BAD);
        }
        for (int what : new int[] {-1, 4, Integer.MIN_VALUE, Integer.MAX_VALUE}) {
            refused("ahead(1, " + what + ")", Played::one, x -> x.ahead(1, what), BAD);
        }
    }

    private static void by() {
        Sentence.of(16, "BAD: rule, length, n, what.");
        int[][] bad = {{-1, 1, 1, 0}, {4, 1, 1, 0}, {0, 0, 1, 0}, {0, 10, 1, 0}, {0, 1, -1, 0}, {0, 1, 61, 0}, {0, 1, 1, -1},
            {0, 1, 1, 4}};
        for (int[] one : bad) {
            refused("by", Played::one, x -> x.by(one[0], one[1], one[2], one[3]), BAD);
        }
    }

    private static void best() {
        Sentence.of(17, "BAD: rule, n.");
        for (int n : new int[] {0, 31}) {
            refused("bestLength(0, " + n + ")", Played::one, x -> x.bestLength(0, n), BAD);
        }
        for (int rule : new int[] {-1, 4}) {
            refused("bestLength(" + rule + ", 1)", Played::one, x -> x.bestLength(rule, 1), BAD);
        }
        Sentence.of(18, "BAD: n.");
        for (int n : new int[] {0, 31}) {
            refused("bestRule(" + n + ")", Played::one, x -> x.bestRule(n), BAD);
        }
    }

    private static void firstSecondShare() {
        for (int child : NO_CHILD) {
            Sentence.of(19, "UNKNOWN.");
            refused("first(" + child + ")", Played::one, x -> x.first(child), UNKNOWN);
            Sentence.of(22, "UNKNOWN.");
            refused("share(" + child + ", true)", Played::one, x -> x.share(child, true), UNKNOWN);
            refused("share(" + child + ", false)", Played::one, x -> x.share(child, false), UNKNOWN);
        }
        Sentence.of(20, "BAD: n.");
        for (int n : new int[] {0, 31}) {
            refused("second(" + n + ")", Played::one, x -> x.second(n), BAD);
        }
    }

    private static void judge() {
        Sentence.of(21, "BAD: n, row (0 or more, 2 n figures at most).");
        int[][] bad = {{0, 0}, {5, 0}, {1, -1}, {1, 100}, {2, 10_000}, {3, 1_000_000}, {4, 100_000_000}};
        for (int[] one : bad) {
            refused("judge(" + one[0] + ", " + one[1] + ")", Played::one, x -> x.judge(one[0], one[1]), BAD);
        }
    }

    private static void see() {
        Sentence.of(23, "UNKNOWN; BAD: n; FULL: 6.");
        for (int child : NO_CHILD) {
            refused("see(" + child + ", 1)", Played::one, x -> x.see(child, 1), UNKNOWN);
            refused("see(" + child + ", 21), full", Played::allSeen, x -> x.see(child, 21), UNKNOWN);
        }
        for (int n : new int[] {-1, 0, 21, Integer.MIN_VALUE, Integer.MAX_VALUE}) {
            refused("see(0, " + n + ")", Played::one, x -> x.see(0, n), BAD);
            refused("see(0, " + n + "), full", Played::allSeen, x -> x.see(0, n), BAD);
        }
        refused("see(0, 1), full", Played::allSeen, x -> x.see(0, 1), FULL);
        refused("see(1, 20), full", Played::allSeen, x -> x.see(1, 20), FULL);
        Check.due("see(2, 20)", Played.one().see(2, 20), 4);
    }

    private static void rests() {
        Sentence.of(26, "UNKNOWN: child, other; BAD: both are one, what.");
        for (int wrong : NO_CHILD) {
            refused("rests(" + wrong + ", 0, 0)", Played::one, x -> x.rests(wrong, 0, 0), UNKNOWN);
            refused("rests(0, " + wrong + ", 0)", Played::one, x -> x.rests(0, wrong, 0), UNKNOWN);
        }
        refused("rests(0, 0, 0)", Played::one, x -> x.rests(0, 0, 0), BAD);
        refused("rests(0, 1, -1)", Played::one, x -> x.rests(0, 1, -1), BAD);
        refused("rests(0, 1, 2)", Played::one, x -> x.rests(0, 1, 2), BAD);
    }

    private static void chance() {
        Sentence.of(27, "UNKNOWN; BAD: n, x.");
        for (int child : NO_CHILD) {
            refused("chance(" + child + ", 1, 1)", Played::one, x -> x.chance(child, 1, 1, true), UNKNOWN);
        }
        int[][] bad = {{0, 1}, {7, 1}, {1, -1}, {1, 11}};
        for (int[] one : bad) {
            refused("chance(0, " + one[0] + ", " + one[1] + ")", Played::one, x -> x.chance(0, one[0], one[1], false), BAD);
        }
    }

    private static void days() {
        Sentence.of(29, "BAD: m.");
        for (int m : new int[] {-1, 0, 31, Integer.MIN_VALUE, Integer.MAX_VALUE}) {
            refused("days(" + m + ")", Played::one, x -> x.days(m), BAD);
        }
    }

    private static void slots() {
        for (int slot : NO_SLOT) {
            Sentence.of(30, "UNKNOWN.");
            refused("keep(" + slot + ")", Played::one, x -> x.keep(slot), UNKNOWN);
            Sentence.of(31, "UNKNOWN; LATE: none were kept.");
            refused("again(" + slot + ")", Played::one, x -> x.again(slot), UNKNOWN);
            refused("again(" + slot + "), none kept", Played::noneKept, x -> x.again(slot), UNKNOWN);
        }
        for (int k = 0; k <= 1; k++) {
            int slot = k;
            refused("again(" + slot + "), none kept", Played::noneKept, x -> x.again(slot), LATE);
            refused("again(" + slot + "), the other one kept", () -> Played.kept(1 - slot), x -> x.again(slot), LATE);
        }
    }

    private static void looked(int promise, String call, ToLongFunction<OneTricycle> asked) {
        Sentence.of(promise, "In what follows nothing is changed.");
        Whole.unchanged(call, Played::one, asked);
        Whole.unchanged(call, Played::two, asked);
    }

    private static void looking() {
        looked(15, "ahead", x -> x.ahead(60, 1));
        looked(16, "by", x -> x.by(3, 1, 60, 2));
        looked(17, "bestLength", x -> x.bestLength(2, 30));
        looked(18, "bestRule", x -> x.bestRule(30));
        looked(19, "first", x -> x.first(2));
        looked(20, "second", x -> x.second(30));
        looked(21, "judge", x -> x.judge(4, 10_322_100));
        looked(22, "share", x -> x.share(1, true));
        looked(25, "may", x -> x.may());
        looked(26, "rests", x -> x.rests(0, 1, 1));
        looked(27, "chance", x -> x.chance(1, 6, 5, true));
        Sentence.of(4, "FAULT; NONE.");
        Whole.unchanged("fault", Played::one, x -> x.fault());
        Whole.unchanged("fault, full", Played::fullText, x -> x.fault());
    }
}
