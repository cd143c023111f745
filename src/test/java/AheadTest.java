/** Promises 15 to 22: what is looked at ahead, weighed, judged and shared, while nothing is changed. */
public final class AheadTest {
    private static final String THREE = "T121C990C990C910";

    public static void main(String[] args) {
        ahead();
        aheadIsWhatComes();
        by();
        bestLength();
        bestRule();
        first();
        firstAtTheEdge();
        second();
        judge();
        judgeRefuses();
        share();
        shareOfSome();
        Check.end("AheadTest");
    }

    private static void aheadDue(OneTricycle x, int n, int... due) {
        for (int what = 0; what < 4; what++) {
            Check.due("ahead(" + n + ", " + what + ")", x.ahead(n, what), due[what]);
        }
    }

    private static void ahead() {
        OneTricycle x = Check.garden(THREE);
        aheadDue(x, 0, 0, 0, 0, 7);
        aheadDue(x, 1, 1, 2, 1, 6);
        aheadDue(x, 2, 1, 4, 2, 6);
        aheadDue(x, 3, 2, 6, 2, 4);
        aheadDue(x, 5, 4, 10, 1, 0);
        aheadDue(x, 6, 4, 12, 0, 0);
        aheadDue(x, 60, 4, 120, 0, 0);
        int[][] wrong = {{-1, 0}, {61, 0}, {0, -1}, {0, 4}, {Integer.MAX_VALUE, 1}, {Integer.MIN_VALUE, 1}};
        for (int[] one : wrong) {
            Check.due("ahead(" + one[0] + ", " + one[1] + ")", x.ahead(one[0], one[1]), OneTricycle.BAD);
        }
        Check.same("nothing is changed", Check.told(x), Check.told(Check.garden(THREE)));
        aheadDue(Check.garden("T011"), 60, 0, 0, 0, 0);
        aheadDue(Check.garden("T011C410C912"), 60, 0, 0, 0, 3);
    }

    private static void aheadIsWhatComes() {
        OneTricycle x = Check.garden("T022C950C631C772C813C390");
        OneTricycle y = Check.garden("T022C950C631C772C813C390");
        for (int n = 0; n <= 60; n++) {
            int stared = 0;
            for (int child = 0; child < 5; child++) {
                stared += y.child(child, 6);
            }
            Check.due("who RIDES in " + n, x.ahead(n, 0), y.about(4));
            Check.due("what all have STARED in " + n, x.ahead(n, 1), stared);
            y.minute();
        }
    }

    private static void by() {
        OneTricycle x = Check.garden(THREE);
        Check.due("by the LIST of 1", x.by(3, 1, 5, 0), 2);
        Check.due("by the LIST of 9", x.by(3, 9, 10, 0), 2);
        Check.due("by NONE", x.by(0, 1, 9, 0), 1);
        Check.due("by NONE", x.by(0, 1, 10, 0), 2);
        Check.due("by NONE, STARED", x.by(0, 1, 9, 1), 18);
        Check.due("by NONE, the GAP", x.by(0, 5, 9, 2), 9);
        Check.due("by NONE, never", x.by(0, 9, 9, 3), 6);
        Check.due("by the LINE of 3", x.by(2, 3, 4, 0), 2);
        Check.due("by as it is", x.by(1, 2, 5, 0), x.ahead(5, 0));
        Check.due("by, now", x.by(2, 9, 0, 3), 7);
        Check.due("by, far", x.by(1, 2, 60, 1), 120);
        int[][] wrong = {{-1, 1, 1, 0}, {4, 1, 1, 0}, {0, 0, 1, 0}, {0, 10, 1, 0}, {0, 1, -1, 0}, {0, 1, 61, 0},
            {0, 1, 1, -1}, {0, 1, 1, 4}};
        for (int[] one : wrong) {
            Check.due("by(" + one[0] + ", " + one[1] + ", " + one[2] + ", " + one[3] + ")",
                x.by(one[0], one[1], one[2], one[3]), OneTricycle.BAD);
        }
        Check.same("nothing is changed", Check.told(x), Check.told(Check.garden(THREE)));
    }

    private static void bestLength() {
        OneTricycle x = Check.garden(THREE);
        Check.due("SAND, 6 minutes: 1, 2 and others are like", x.bestLength(1, 6), 1);
        Check.due("NONE: all are like", x.bestLength(0, 9), 1);
        // 1 rides alone for four minutes till 0 ASKS; in turns of 5 each rides 5 of 10
        x = Check.garden("T321C183C861");
        Check.due("the LINE, 10 minutes", x.bestLength(2, 10), 5);
        Check.due("the GAP by 4", x.by(2, 4, 10, 2), 2);
        Check.due("the GAP by 5", x.by(2, 5, 10, 2), 0);
        // 0 rides its WISH of 9 down while that of 1 grows to 9, then the other way round
        Check.due("the greatest LENGTH", Check.garden("T311C931C063").bestLength(2, 18), 9);
        Check.due("1 minute", x.bestLength(2, 1), 1);
        Check.due("30 minutes", x.bestLength(3, 30), leastGap(x, 3, 30));
        int[][] wrong = {{-1, 1}, {4, 1}, {0, 0}, {0, 31}, {0, -1}, {0, Integer.MAX_VALUE}};
        for (int[] one : wrong) {
            Check.due("bestLength(" + one[0] + ", " + one[1] + ")", x.bestLength(one[0], one[1]), OneTricycle.BAD);
        }
        Check.same("nothing is changed", Check.told(x), Check.told(Check.garden("T321C183C861")));
    }

    private static int leastGap(OneTricycle x, int rule, int n) {
        int best = 1;
        for (int length = 2; length <= 9; length++) {
            if (x.by(rule, length, n, 2) < x.by(rule, best, n, 2)) {
                best = length;
            }
        }
        return best;
    }

    private static void bestRule() {
        OneTricycle x = Check.garden(THREE);
        Check.due("like ones: the least", x.bestRule(6), 0);
        // by NONE the weak one of WISH 5 is pushed off, by others it rides its 2 minutes
        x = Check.garden("T021C510C490C210");
        int best = 0;
        for (int rule = 1; rule < 4; rule++) {
            if (x.by(rule, 2, 7, 1) < x.by(best, 2, 7, 1)) {
                best = rule;
            }
        }
        Check.due("least STARED of four", x.bestRule(7), best);
        // a SHY one ASKS by the LIST alone, and rides instead of staring
        x = Check.garden("T332C830C362");
        Check.due("the LIST", x.bestRule(5), 3);
        Check.due("the LIST: STARED", x.by(3, 3, 5, 1), 1);
        Check.due("SAND: STARED", x.by(1, 3, 5, 1), 4);
        int[] wrong = {0, 31, -1, Integer.MIN_VALUE};
        for (int n : wrong) {
            Check.due("bestRule(" + n + ")", x.bestRule(n), OneTricycle.BAD);
        }
        Check.holds("bestRule(1)", x.bestRule(1) >= 0);
        Check.holds("bestRule(30)", x.bestRule(30) >= 0);
        Check.same("nothing is changed", Check.told(x), Check.told(Check.garden("T332C830C362")));
    }

    private static void first() {
        OneTricycle x = Check.garden("T121C990C990C910C912");
        Check.due("first(0)", x.first(0), 1);
        Check.due("first(1)", x.first(1), 3);
        Check.due("first(2)", x.first(2), 5);
        Check.due("first(3), a SHY one", x.first(3), OneTricycle.NONE);
        Check.due("first(4)", x.first(4), OneTricycle.UNKNOWN);
        Check.due("first(-1)", x.first(-1), OneTricycle.UNKNOWN);
        Check.due("first(greatest)", x.first(Integer.MAX_VALUE), OneTricycle.UNKNOWN);
        Check.minutes(x, "on", 1);
        Check.due("it RIDES now", x.first(0), 0);
        Check.due("first(1), a minute on", x.first(1), 2);
        Check.about(x, "nothing is changed", 9, 1);
    }

    private static void firstAtTheEdge() {
        OneTricycle x = Check.garden("T042C271C780C993C240C661");
        for (int k = 0; k < 13; k++) {
            x.minute();
        }
        Check.due("in 61 minutes", x.first(3), OneTricycle.NONE);
        x.minute();
        Check.due("in 60 minutes", x.first(3), 60);
        x.minute();
        Check.due("in 59 minutes", x.first(3), 59);
        for (int k = 0; k < 58; k++) {
            x.minute();
        }
        Check.child(x, "has never RIDDEN", 3, 5, 0);
        Check.due("in 1 minute", x.first(3), 1);
        Check.holds("it RIDES then", (x.minute() & 8) != 0);
    }

    private static void second() {
        OneTricycle x = Check.garden(THREE);
        Check.due("second(1)", x.second(1), 1);
        Check.due("second(6)", x.second(6), 6);
        Check.due("second(0)", x.second(0), OneTricycle.BAD);
        Check.due("second(31)", x.second(31), OneTricycle.BAD);
        Check.due("second(-1)", x.second(-1), OneTricycle.BAD);
        Check.due("30 minutes", x.second(30), x.ahead(30, 1) - twoThings(30));
        Check.same("nothing is changed", Check.told(x), Check.told(Check.garden(THREE)));
        x.put();
        Check.due("there are two", x.second(6), 0);
        Check.due("nobody", Check.garden("T011").second(30), 0);
    }

    private static int twoThings(int n) {
        OneTricycle x = Check.garden(THREE);
        x.put();
        return x.ahead(n, 1);
    }

    private static void judgeDue(OneTricycle x, int n, int row, int due) {
        Check.due("judge(" + n + ", " + row + ")", x.judge(n, row), due);
    }

    private static void judge() {
        OneTricycle x = Check.garden(THREE);
        Check.minutes(x, "0 RIDES", 1);
        String before = Check.told(x);
        judgeDue(x, 1, 0, OneTricycle.NONE);
        judgeDue(x, 4, 0, OneTricycle.NONE);
        judgeDue(x, 1, 1, 0);
        judgeDue(x, 1, 10, OneTricycle.NONE);
        judgeDue(x, 1, 11, 0);
        judgeDue(x, 1, 13, 0);
        judgeDue(x, 1, 19, 0);
        judgeDue(x, 1, 20, 0);
        judgeDue(x, 1, 21, OneTricycle.NONE);
        judgeDue(x, 1, 23, 0);
        judgeDue(x, 1, 31, 0);
        judgeDue(x, 1, 30, OneTricycle.NONE);
        judgeDue(x, 1, 33, OneTricycle.NONE);
        judgeDue(x, 1, 34, 0);
        judgeDue(x, 1, 40, 0);
        judgeDue(x, 1, 99, 0);
        judgeDue(x, 2, 100, 0);
        judgeDue(x, 2, 1010, 1);
        judgeDue(x, 2, 2121, 1);
        judgeDue(x, 2, 1020, OneTricycle.NONE);
        judgeDue(x, 3, 321031, OneTricycle.NONE);
        judgeDue(x, 4, 32323132, 1);
        judgeDue(x, 4, 32303132, OneTricycle.NONE);
        judgeDue(x, 4, 1000, 2);
        judgeDue(x, 4, 1100, OneTricycle.NONE);
        judgeDue(x, 4, 1, 3);
        judgeDue(x, 3, 210021, OneTricycle.NONE);
        Check.same("nothing is changed", Check.told(x), before);
    }

    private static void judgeRefuses() {
        OneTricycle x = Check.garden(THREE);
        judgeDue(x, 1, 100, OneTricycle.BAD);
        judgeDue(x, 2, 9999, 0);
        judgeDue(x, 2, 10_000, OneTricycle.BAD);
        judgeDue(x, 3, 999_999, 0);
        judgeDue(x, 3, 1_000_000, OneTricycle.BAD);
        judgeDue(x, 4, 99_999_999, 0);
        judgeDue(x, 4, 100_000_000, OneTricycle.BAD);
        judgeDue(x, 4, Integer.MAX_VALUE, OneTricycle.BAD);
        judgeDue(x, 1, -1, OneTricycle.BAD);
        judgeDue(x, 4, Integer.MIN_VALUE, OneTricycle.BAD);
        judgeDue(x, 0, 0, OneTricycle.BAD);
        judgeDue(x, 5, 0, OneTricycle.BAD);
        judgeDue(x, -1, 0, OneTricycle.BAD);
        judgeDue(x, Integer.MAX_VALUE, 0, OneTricycle.BAD);
    }

    private static void shareDue(String where, OneTricycle x, int child, int above, int below) {
        Check.due(where + ": share(" + child + ", true)", x.share(child, true), above);
        Check.due(where + ": share(" + child + ", false)", x.share(child, false), below);
    }

    private static void share() {
        shareDue("alone", Check.garden("T011C910"), 0, 6, 1);
        shareDue("alone, WISH 5", Check.garden("T011C510"), 0, 5, 1);
        shareDue("alone, WISH 4", Check.garden("T011C410"), 0, 0, 1);
        shareDue("two like ones", Check.garden("T111C990C990"), 0, 3, 1);
        shareDue("two like ones, two things", Check.garden("T112C990C990"), 1, 6, 1);
        shareDue("five like ones", Check.garden("T111C990C990C990C990C990"), 3, 6, 5);
        shareDue("one that adds nothing", Check.garden("T111C990C990C410"), 2, 0, 1);
        // 5 alone, 6 with another: (5 + 0) / 2
        shareDue("WISH 5 of two", Check.garden("T111C510C990"), 0, 5, 2);
        shareDue("WISH 9 of two", Check.garden("T111C510C990"), 1, 7, 2);
        // when both others ride, 2 makes them get off in the sixth minute, and rides alone
        OneTricycle x = Check.garden("T312C930C920C031");
        shareDue("less than 0", x, 2, -1, 3);
        Check.due("share(3)", x.share(3, true), OneTricycle.UNKNOWN);
        Check.due("share(-1)", x.share(-1, false), OneTricycle.UNKNOWN);
        Check.same("nothing is changed", Check.told(x), Check.told(Check.garden("T312C930C920C031")));
    }

    private static void shareOfSome() {
        OneTricycle x = Check.garden("T191C990C990");
        Check.minutes(x, "what has been RIDDEN does not count", 1, 1, 1);
        shareDue("0 RIDES, of WISH 6", x, 0, 3, 1);
        shareDue("1 stares", x, 1, 3, 1);
        x = Check.garden("T191C990C110");
        Check.minutes(x, "on", 1, 1, 1, 1, 1);
        // 0 has WISH 4, 1 has WISH 6: by itself 0 rides 4 minutes, 1 rides 6; both 6, 0 off after 4
        shareDue("who RIDES rides on", x, 0, 2, 1);
        shareDue("who RIDES is off when it is not there", x, 1, 4, 1);
        // by the LINE what each has STARED counts; the one thing is ridden 6 minutes by any
        x = Check.garden("T231C990C990C990");
        Check.minutes(x, "on", 1, 1);
        shareDue("three", x, 2, 2, 1);
    }
}
