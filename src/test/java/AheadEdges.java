/** Promises 15 to 22 at their edges, sentence by sentence. */
final class AheadEdges {
    /** By SAND, in turns of 1: 0 in odd minutes, 1 in even ones, and who does not ride stares. */
    private static final String BY_TURNS = "T111C990C990";
    private static final String THREE = "T121C990C990C910";
    private static final int NONE = OneTricycle.NONE, BAD = OneTricycle.BAD;

    private AheadEdges() {
    }

    static void run() {
        ahead();
        aheadFromNow();
        gap();
        neverRidden();
        by();
        byFromNowOn();
        bestLength();
        bestLengthOfLikeOnes();
        bestRule();
        bestRuleOfLikeOnes();
        bestRuleWithLengthAsItIs();
        first();
        firstAtTheEdge();
        firstNever();
        second();
        secondOfTwo();
        judgedDoings();
        judgedMinutesAndPushes();
        judgedCallsAndRules();
        judgedPlace();
        judgedRow();
        shareInEachOrder();
        shareOfSixMinutes();
        shareIsAFraction();
    }

    private static OneTricycle after(String text, int... riders) {
        OneTricycle x = Check.garden(text);
        Check.minutes(x, text, riders);
        return x;
    }

    private static void aheadDue(OneTricycle x, int n, int... due) {
        for (int what = 0; what < due.length; what++) {
            Check.due("ahead(" + n + ", " + what + ")", x.ahead(n, what), due[what]);
        }
    }

    private static void ahead() {
        Sentence.of(15, "IN n MINUTES: who RIDES (what = 0: bits), what all have STARED (1), the GAP (2), who has never RIDDEN (3: bits).");
        OneTricycle x = Check.garden(BY_TURNS);
        aheadDue(x, 0, 0, 0, 0, 3);
        aheadDue(x, 1, 1, 1, 1, 2);
        for (int n = 2; n <= 60; n++) {
            aheadDue(x, n, n % 2 == 1 ? 1 : 2, n, n % 2, 0);
        }
        Sentence.of(15, "BAD: n, what.");
        for (int what = -2; what <= 5; what++) {
            boolean isBad = what < 0 || what > 3;
            Check.due("ahead(0, " + what + ")", x.ahead(0, what), isBad ? BAD : what == 3 ? 3 : 0);
            Check.due("ahead(-1, " + what + ")", x.ahead(-1, what), BAD);
            Check.due("ahead(61, " + what + ")", x.ahead(61, what), BAD);
        }
        Check.due("ahead(least, 0)", x.ahead(Integer.MIN_VALUE, 0), BAD);
        Check.due("ahead(greatest, 0)", x.ahead(Integer.MAX_VALUE, 0), BAD);
    }

    private static void aheadFromNow() {
        Sentence.of(15, "IN n MINUTES (0 .. 60) from now, if nothing else is done: who RIDES (bits); what all have STARED;");
        OneTricycle x = after(BY_TURNS, 1);
        aheadDue(x, 0, 1, 1, 1, 2);
        aheadDue(x, 59, 2, 60, 0, 0);
        aheadDue(x, 60, 1, 61, 1, 0);
        aheadDue(x, 61, BAD, BAD, BAD, BAD);
        OneTricycle y = Check.garden("T021C950C631C772C813C390");
        OneTricycle twin = Check.garden("T021C950C631C772C813C390");
        for (int n = 0; n <= 60; n++) {
            Check.due("ahead(" + n + ", 0)", y.ahead(n, 0), twin.about(4));
            twin.minute();
        }
    }

    private static void gap() {
        Sentence.of(15, "the GAP: by how much who has RIDDEN most has more than who has least (0: there is nobody)");
        OneTricycle x = Check.garden("T191C990C990C110");
        int[][] due = {{0, 0}, {1, 1}, {9, 9}, {10, 9}, {18, 9}, {19, 8}, {26, 1}, {27, 0}, {28, 1}};
        for (int[] one : due) {
            Check.due("the GAP in " + one[0], x.ahead(one[0], 2), one[1]);
        }
        for (int n : new int[] {0, 1, 60}) {
            Check.due("nobody", Check.garden("T011").ahead(n, 2), 0);
            Check.due("a new object", new OneTricycle().ahead(n, 2), 0);
            Check.due("one alone", Check.garden("T011C910").ahead(n, 2), 0);
        }
    }

    private static void neverRidden() {
        Sentence.of(15, "who has never RIDDEN (bits).");
        OneTricycle x = Check.garden("T191C990C990C992C110C010");
        Check.due("now", x.ahead(0, 3), 0b11111);
        Check.due("in 1 minute", x.ahead(1, 3), 0b11110);
        Check.due("in 9 minutes", x.ahead(9, 3), 0b11110);
        Check.due("in 10 minutes", x.ahead(10, 3), 0b11100);
        Check.due("in 60 minutes, a SHY one", x.ahead(60, 3), 0b00100);
        x.minute();
        x.push(0);
        Check.due("who has RIDDEN, but does not RIDE", x.ahead(0, 3), 0b11110);
        Check.due("nobody", Check.garden("T011").ahead(60, 3), 0);
    }

    private static void by() {
        Sentence.of(16, "BY: likewise.");
        String text = "T242C950C631C772C813C390";
        OneTricycle x = Check.garden(text);
        for (int rule = 0; rule <= 3; rule++) {
            for (int length = 1; length <= 9; length++) {
                OneTricycle twin = Check.garden(text);
                twin.rule(rule, length);
                x = Check.garden(text);
                for (int n : new int[] {0, 1, 2, 7, 30, 59, 60}) {
                    for (int what = 0; what <= 3; what++) {
                        Check.due("by(" + rule + ", " + length + ", " + n + ", " + what + ")",
                            x.by(rule, length, n, what), twin.ahead(n, what));
                    }
                }
            }
        }
        Sentence.of(16, "BAD: rule, length, n, what.");
        int[][] bad = {{-1, 1, 0, 0}, {4, 1, 0, 0}, {0, 0, 0, 0}, {0, 10, 0, 0}, {0, 1, -1, 0}, {0, 1, 61, 0}, {0, 1, 0, -1},
            {0, 1, 0, 4}, {3, 9, 60, 4}, {3, 9, 61, 3}, {3, 10, 60, 3}, {4, 9, 60, 3}};
        for (int[] one : bad) {
            Check.due("by(" + one[0] + ", " + one[1] + ", " + one[2] + ", " + one[3] + ")",
                x.by(one[0], one[1], one[2], one[3]), BAD);
        }
        OneTricycle turns = Check.garden(BY_TURNS);
        Check.due("by(0, 1, 0, 0)", turns.by(0, 1, 0, 0), 0);
        // the LIST in turns of 9: 0, 1, 0 .. of which the 60th minute is the sixth one of 0
        Check.due("by(3, 9, 60, 0)", turns.by(3, 9, 60, 0), 1);
        Check.due("by(3, 9, 60, 2)", turns.by(3, 9, 60, 2), 6);
        Check.due("by(3, 9, 60, 3)", turns.by(3, 9, 60, 3), 0);
        Check.due("by(3, 9, 9, 3)", turns.by(3, 9, 9, 3), 2);
    }

    private static void byFromNowOn() {
        Sentence.of(16, "BY a RULE r and a LENGTH l: what would be IN n MINUTES, if it was that RULE and LENGTH from now on.");
        OneTricycle x = after("T191C990C990", 1, 1, 1);
        Check.due("it rode 3 of 3", x.by(1, 3, 1, 0), 2);
        Check.due("it rode 3 of 4", x.by(1, 4, 1, 0), 1);
        Check.due("it rode 4 of 4", x.by(1, 4, 2, 0), 2);
        Check.due("now", x.by(0, 1, 0, 0), 1);
        Check.due("now: STARED", x.by(0, 1, 0, 1), 3);
        Check.due("now: the GAP", x.by(0, 1, 0, 2), 3);
        Check.due("now: never", x.by(0, 1, 0, 3), 2);
        Check.about(x, "the RULE is as it was", 1, 1);
        Check.about(x, "LENGTH is as it was", 2, 9);
    }

    private static int leastGap(OneTricycle x, int rule, int n) {
        int best = 1;
        for (int length = 2; length <= 9; length++) {
            if (x.by(rule, length, n, 2) < x.by(rule, best, n, 2)) {
                best = length;
            }
        }
        return best;
    }

    private static void bestLength() {
        Sentence.of(17, "The best LENGTH for a RULE and n (1 .. 30): that BY which, and that RULE, the GAP IN n MINUTES is least");
        // 0 rode 2, and gave it to 1, which rode 1: by the LIST only in turns of 1 the next minute is not its own
        OneTricycle x = after("T191C990C990", 1, 1);
        Check.due("give", x.give(0, 1), 2);
        Check.due("1 RIDES", x.minute(), 2);
        Check.due("in 1 minute", x.bestLength(3, 1), 2);
        Check.due("in 2 minutes", x.bestLength(3, 2), 1);
        // 0 rides its WISH of 9 down while that of 1 grows to 9, then the other way round
        x = Check.garden("T311C931C063");
        Check.due("the greatest LENGTH", x.bestLength(2, 18), 9);
        Check.due("by 8", x.by(2, 8, 18, 2), 2);
        Check.due("by 9", x.by(2, 9, 18, 2), 0);
        Sentence.of(17, "The best LENGTH.");
        String[] texts = {"T322C071C321C751", "T232C523C260C492"};
        int[][] due = {{2, 29, 5}, {2, 30, 4}, {3, 29, 6}, {3, 30, 3}};
        for (int k = 0; k < due.length; k++) {
            x = Check.garden(texts[k / 2]);
            Check.due("in " + due[k][1] + " minutes", x.bestLength(due[k][0], due[k][1]), due[k][2]);
            Check.due("by each LENGTH", leastGap(x, due[k][0], due[k][1]), due[k][2]);
        }
        Sentence.of(17, "BAD: rule, n.");
        for (int n : new int[] {-1, 0, 31, 60, Integer.MIN_VALUE, Integer.MAX_VALUE}) {
            Check.due("bestLength(0, " + n + ")", x.bestLength(0, n), BAD);
            Check.due("bestLength(3, " + n + ")", x.bestLength(3, n), BAD);
        }
        for (int rule : new int[] {-1, 4}) {
            Check.due("bestLength(" + rule + ", 1)", x.bestLength(rule, 1), BAD);
            Check.due("bestLength(" + rule + ", 30)", x.bestLength(rule, 30), BAD);
        }
    }

    private static void bestLengthOfLikeOnes() {
        Sentence.of(17, "that BY which, and that RULE, the GAP IN n MINUTES is least; of like ones the least.");
        for (int rule = 0; rule <= 3; rule++) {
            Check.due("nobody: all are like", Check.garden("T091").bestLength(rule, 30), 1);
            Check.due("one alone: all are like", Check.garden("T091C910").bestLength(rule, 1), 1);
        }
        OneTricycle x = Check.garden("T232C523C260C492");
        int[] gaps = {1, 1, 0, 3, 0, 1, 1, 1, 1};
        for (int length = 1; length <= 9; length++) {
            Check.due("the GAP by " + length, x.by(3, length, 30, 2), gaps[length - 1]);
        }
        Check.due("3 and 5 are like", x.bestLength(3, 30), 3);
    }

    private static int leastStared(OneTricycle x, int n) {
        int best = 0;
        for (int rule = 1; rule <= 3; rule++) {
            if (x.by(rule, x.about(2), n, 1) < x.by(best, x.about(2), n, 1)) {
                best = rule;
            }
        }
        return best;
    }

    private static void bestRule() {
        Sentence.of(18, "The best RULE for n:");
        // by the LIST the SHY one rides instead of staring
        OneTricycle x = Check.garden("T092C910C512");
        Check.due("in 1 minute", x.bestRule(1), 3);
        Check.due("by NONE one stares", x.by(0, 9, 1, 1), 1);
        Check.due("by the LIST nobody does", x.by(3, 9, 1, 1), 0);
        String[] texts = {"T281C512C320C840", "T242C771C820C790"};
        int[][] due = {{1, 3}, {3, 1}};
        for (int k = 0; k < 2; k++) {
            x = Check.garden(texts[k]);
            Check.due("in 29 minutes", x.bestRule(29), due[k][0]);
            Check.due("in 30 minutes", x.bestRule(30), due[k][1]);
            for (int n = 1; n <= 30; n++) {
                Check.due("in " + n + " minutes", x.bestRule(n), leastStared(x, n));
            }
        }
        // gardens in which turns without any order would be stared at least
        for (String text : new String[] {"T331C023C821C751", "T342C930C470C470C692C562"}) {
            x = Check.garden(text);
            for (int n = 1; n <= 30; n++) {
                Check.due("in " + n + " minutes, of four RULES", x.bestRule(n), leastStared(x, n));
            }
        }
        Sentence.of(18, "BAD: n.");
        for (int n : new int[] {-1, 0, 31, 60, Integer.MIN_VALUE, Integer.MAX_VALUE}) {
            Check.due("bestRule(" + n + ")", x.bestRule(n), BAD);
        }
    }

    private static void bestRuleOfLikeOnes() {
        Sentence.of(18, "all have STARED least IN n MINUTES; of like ones the least.");
        Check.due("nobody: all are like", Check.garden("T391").bestRule(30), 0);
        Check.due("one alone: all are like", Check.garden("T391C910").bestRule(1), 0);
        OneTricycle x = Check.garden("T121C583C171");
        int[] stared = {6, 4, 4, 4};
        for (int rule = 0; rule <= 3; rule++) {
            Check.due("STARED by " + rule, x.by(rule, 2, 19, 1), stared[rule]);
        }
        Check.due("1, 2 and 3 are like", x.bestRule(19), 1);
    }

    private static void bestRuleWithLengthAsItIs() {
        Sentence.of(18, "that BY which, with LENGTH as it is,");
        OneTricycle x = Check.garden("T051C541C973");
        Check.due("turns of 5", x.bestRule(13), 1);
        Check.due("turns of 5", leastStared(x, 13), 1);
        x = Check.garden("T011C541C973");
        Check.due("turns of 1", x.bestRule(13), 0);
        Check.due("turns of 1", leastStared(x, 13), 0);
        Sentence.of(18, "The best RULE.");
        Check.due("turns of 5", x.rule(3, 5), 0);
        Check.due("whatever the RULE is now", x.bestRule(13), 1);
        Check.about(x, "the RULE is as it was", 1, 3);
    }

    private static void first() {
        Sentence.of(19, "FIRST of a CHILD: in how many MINUTES (1 .. 60) it RIDES first, if nothing else is done (0: it RIDES now); NONE.");
        for (int length = 1; length <= 9; length++) {
            OneTricycle x = Check.garden("T1" + length + "1C990C990C990");
            for (int child = 0; child < 3; child++) {
                Check.due("turns of " + length, x.first(child), child * length + 1);
            }
            x.minute();
            Check.due("it RIDES now", x.first(0), 0);
            Check.due("a minute on", x.first(1), length);
            Check.due("a minute on", x.first(2), 2 * length);
            Check.due("push", x.push(0), 1);
            Check.due("pushed off, behind two others", x.first(0), 2 * length + 1);
        }
        OneTricycle x = after(BY_TURNS, 1, 2);
        Check.due("it has RIDDEN before", x.first(0), 1);
        Sentence.of(19, "UNKNOWN.");
        for (int child : new int[] {-1, 2, 5, Integer.MIN_VALUE, Integer.MAX_VALUE}) {
            Check.due("first(" + child + ")", x.first(child), OneTricycle.UNKNOWN);
        }
        Check.due("nobody is there", new OneTricycle().first(0), OneTricycle.UNKNOWN);
    }

    private static void firstAtTheEdge() {
        Sentence.of(19, "in how many MINUTES (1 .. 60) it RIDES first");
        OneTricycle x = Check.garden("T042C271C780C993C240C661");
        for (int k = 0; k < 13; k++) {
            x.minute();
        }
        Check.due("in 61 minutes", x.first(3), NONE);
        for (int n = 60; n >= 1; n--) {
            Check.holds("it does not RIDE", (x.minute() & 8) == 0);
            Check.due("in " + n + " minutes", x.first(3), n);
        }
        Check.holds("it RIDES", (x.minute() & 8) != 0);
        Check.due("it RIDES now", x.first(3), 0);
    }

    private static void firstNever() {
        Sentence.of(19, "FIRST; NONE.");
        OneTricycle x = Check.garden("T011C410C992");
        Check.due("a WISH of 4, and nobody RIDES", x.first(0), NONE);
        Check.due("a SHY one", x.first(1), NONE);
        x.rule(3, 1);
        Check.due("a SHY one by the LIST", x.first(1), 1);
        Check.due("a WISH of 4 grows then", x.first(0), 2);
    }

    private static int staredLess(String text, int n) {
        OneTricycle two = Check.garden(text);
        two.put();
        return Check.garden(text).ahead(n, 1) - two.ahead(n, 1);
    }

    private static void second() {
        Sentence.of(20, "SECOND for n (1 .. 30): how much less all have STARED IN n MINUTES, if there are 2 THINGS from now on");
        // five of great WISHES, in turns of 1: four stare in each minute, or three
        OneTricycle x = Check.garden("T111C990C990C990C990C990");
        Check.due("second(1)", x.second(1), 1);
        Check.due("second(29)", x.second(29), 29);
        Check.due("second(30)", x.second(30), 30);
        for (String text : new String[] {THREE, "T021C950C631C772C813C390", "T211C510C490C992", "T321C512C712C912C331"}) {
            x = Check.garden(text);
            for (int n = 1; n <= 30; n++) {
                Check.due("second(" + n + ")", x.second(n), staredLess(text, n));
            }
        }
        Sentence.of(20, "SECOND.");
        x = after("T191C990C990", 1, 1);
        Check.due("from now on: what was STARED so far stays", x.second(1), 1);
        Sentence.of(20, "BAD: n.");
        for (int n : new int[] {-1, 0, 31, 60, Integer.MIN_VALUE, Integer.MAX_VALUE}) {
            Check.due("second(" + n + ")", x.second(n), BAD);
        }
    }

    /** By no garden and no run of ACTS that was tried SECOND was less than 0, so there is none to be told here. */
    private static void secondOfTwo() {
        Sentence.of(20, "(0, if there are; less than 0: it is more).");
        OneTricycle x = Check.garden("T122C990C990C910C992");
        for (int n = 1; n <= 30; n++) {
            Check.due("there are 2 THINGS", x.second(n), 0);
        }
        Check.due("put", x.put(), 1);
        Check.due("there is 1 THING", x.second(1), 1);
        Check.due("nobody stares, or nobody", Check.garden("T011C910").second(30), 0);
        Check.due("nobody is there", new OneTricycle().second(1), 0);
    }

    private static void judgeDue(OneTricycle x, int n, int row, int due) {
        Check.due("judge(" + n + ", " + row + ")", x.judge(n, row), due);
    }

    /** 0 RIDES with a WISH of 8, 1 and 2 stare; by SAND, in turns of 2. */
    private static OneTricycle oneRides() {
        return after(THREE, 1);
    }

    private static void judgedDoings() {
        Sentence.of(21, "JUDGED: n doings (1 .. 4), told as two figures each");
        OneTricycle x = oneRides();
        for (int n = -1; n <= 6; n++) {
            judgeDue(x, n, 0, n >= 1 && n <= 4 ? NONE : BAD);
            judgeDue(x, n, 40, n >= 1 && n <= 4 ? n - 1 : BAD);
        }
        judgeDue(x, 2, 1020, NONE);
        judgeDue(x, 3, 102010, 2);
        judgeDue(x, 4, 10202122, NONE);
        // two minutes, then 1 RIDES, and is pushed off
        judgeDue(x, 3, 11, NONE);
        judgeDue(x, 2, 11, 1);
    }

    private static void judgedMinutesAndPushes() {
        OneTricycle x = oneRides();
        Sentence.of(21, "(0 and 0: A MINUTE;");
        judgeDue(x, 1, 0, NONE);
        for (int figure = 1; figure <= 9; figure++) {
            judgeDue(x, 1, figure, 0);
        }
        judgeDue(x, 2, 10, NONE);
        judgeDue(x, 3, 10, 2);
        Sentence.of(21, "1 and a CHILD: PUSHED;");
        for (int figure = 0; figure <= 9; figure++) {
            judgeDue(x, 1, 10 + figure, figure == 0 ? NONE : 0);
        }
        judgeDue(x, 2, 1010, 1);
    }

    private static void judgedCallsAndRules() {
        OneTricycle x = oneRides();
        Sentence.of(21, "2 and a CHILD: CALLED;");
        for (int figure = 0; figure <= 9; figure++) {
            judgeDue(x, 1, 20 + figure, figure == 1 || figure == 2 ? NONE : 0);
        }
        judgeDue(x, 2, 2121, 1);
        judgeDue(x, 3, 210021, NONE);
        judgeDue(x, 2, 1020, NONE);
        Sentence.of(21, "3 and a RULE: RULED, LENGTH as it is):");
        for (int figure = 0; figure <= 9; figure++) {
            judgeDue(x, 1, 30 + figure, figure <= 3 && figure != 1 ? NONE : 0);
        }
        judgeDue(x, 2, 3333, 1);
        judgeDue(x, 2, 3331, NONE);
        // by the LIST, still in turns of 2: 0 rides one minute more, then 1
        judgeDue(x, 3, 330010, NONE);
        judgeDue(x, 3, 330011, 2);
        judgeDue(x, 4, 33000010, 3);
        judgeDue(x, 4, 33000011, NONE);
    }

    private static void judgedPlace() {
        Sentence.of(21, "the place of the first that can not be; NONE: none.");
        OneTricycle x = oneRides();
        judgeDue(x, 4, 99000000, 0);
        judgeDue(x, 4, 990000, 1);
        judgeDue(x, 4, 9900, 2);
        judgeDue(x, 4, 99, 3);
        judgeDue(x, 4, 99009900, 0);
        judgeDue(x, 4, 990099, 1);
        judgeDue(x, 4, 999999, 1);
        Sentence.of(21, "JUDGED; NONE.");
        judgeDue(x, 4, 32303132, NONE);
        judgeDue(x, 4, 10213200, NONE);
    }

    private static void judgedRow() {
        Sentence.of(21, "BAD: n, row (0 or more, 2 n figures at most).");
        OneTricycle x = oneRides();
        int[] tooMuch = {0, 100, 10_000, 1_000_000, 100_000_000};
        for (int n = 1; n <= 4; n++) {
            judgeDue(x, n, 0, NONE);
            judgeDue(x, n, -1, BAD);
            judgeDue(x, n, Integer.MIN_VALUE, BAD);
            judgeDue(x, n, tooMuch[n] - 1, 0);
            judgeDue(x, n, tooMuch[n], BAD);
            judgeDue(x, n, Integer.MAX_VALUE, BAD);
        }
        judgeDue(x, 0, -1, BAD);
        judgeDue(x, 5, 100_000_000, BAD);
        judgeDue(x, Integer.MIN_VALUE, 0, BAD);
        judgeDue(x, Integer.MAX_VALUE, 0, BAD);
    }

    private static void shareDue(OneTricycle x, int child, int above, int below) {
        Check.due("share(" + child + ", true)", x.share(child, true), above);
        Check.due("share(" + child + ", false)", x.share(child, false), below);
    }

    private static void shareInEachOrder() {
        Sentence.of(22, "SHARE of a CHILD: if CHILDREN come one by one, in each order as likely (others are not there; who of them RIDES is off):");
        // alone 5, 5 and 6 minutes are ridden, by any two or all of them 6
        OneTricycle x = Check.garden("T111C510C510C990");
        shareDue(x, 0, 11, 6);
        shareDue(x, 1, 11, 6);
        shareDue(x, 2, 7, 3);
        shareDue(Check.garden("T111C990C990C990C990C990"), 4, 6, 5);
        // 0 RIDES with a WISH of 4, 1 has one of 6: alone they ride 4 and 6 minutes, together 6
        x = after("T191C990C110", 1, 1, 1, 1, 1);
        shareDue(x, 0, 2, 1);
        shareDue(x, 1, 4, 1);
        Sentence.of(22, "UNKNOWN.");
        for (int child : new int[] {-1, 2, 5, Integer.MIN_VALUE, Integer.MAX_VALUE}) {
            Check.due("share", x.share(child, true), OneTricycle.UNKNOWN);
            Check.due("share", x.share(child, false), OneTricycle.UNKNOWN);
        }
        Check.due("nobody is there", new OneTricycle().share(0, true), OneTricycle.UNKNOWN);
    }

    private static void shareOfSixMinutes() {
        Sentence.of(22, "by how much in the mean what all RIDE IN 6 MINUTES is more when it has come than it was:");
        int[] due = {0, 0, 0, 0, 0, 5, 6, 6, 6, 6};
        for (int wish = 0; wish <= 9; wish++) {
            shareDue(Check.garden("T011C" + wish + "10"), 0, due[wish], 1);
        }
        OneTricycle x = after("T011C910", 1, 1, 1);
        shareDue(x, 0, 6, 1);
        x = after("T011C910", 1, 1, 1, 1);
        shareDue(x, 0, 5, 1);
        shareDue(Check.garden("T112C990C990"), 0, 6, 1);
    }

    private static void shareIsAFraction() {
        Sentence.of(22, "a FRACTION (less than 0: the upper one is).");
        // 0 and 1 ride two things for 6 minutes, 12 in all; with 2 both get off for it in the sixth, 11 in all
        OneTricycle x = Check.garden("T312C930C920C031");
        shareDue(x, 2, -1, 3);
        shareDue(x, 0, 17, 3);
        shareDue(x, 1, 17, 3);
        Sentence.of(22, "SHARE.");
        shareDue(Check.garden("T111C990C990C410"), 2, 0, 1);
        Sentence.of(22, "FRACTIONS are told above (upper = true), below, in least terms.");
        shareDue(Check.garden("T111C510C990"), 0, 5, 2);
        shareDue(Check.garden("T111C510C990"), 1, 7, 2);
        shareDue(Check.garden("T111C990C990C990"), 1, 2, 1);
        shareDue(Check.garden("T111C990C990C990C990"), 1, 3, 2);
    }
}
