/** Promises 8 to 14: A MINUTE by each RULE, GIVEN, PUSHED, CALLED, RULED, PUT, and all undone. */
public final class ActsTest {
    public static void main(String[] args) {
        minuteByNone();
        minuteByNoneGivers();
        minuteGetsOffInOrder();
        minuteBySand();
        minuteByLine();
        minuteByList();
        minuteWishes();
        minuteOfTwoThings();
        give();
        push();
        call();
        rule();
        put();
        undo();
        undoForgets();
        Check.end("ActsTest");
    }

    private static void minuteByNone() {
        OneTricycle x = Check.garden("T011C940C431");
        Check.minutes(x, "a BITER of like MIGHT less 1", 1, 2);
        Check.child(x, "pushed off", 0, 8, 1);
        Check.child(x, "pushed off", 0, 4, 0);
        Check.child(x, "pushed off", 0, 6, 1);
        Check.child(x, "got on", 1, 4, 1);
        Check.child(x, "got on", 1, 7, 0);
        Check.about(x, "got on", 8, 1);
        x = Check.garden("T011C950C431");
        Check.minutes(x, "like MIGHT pushes nobody off", 1, 1, 1, 1, 1, 1, 1, 1, 1, 2);
        Check.child(x, "its WISH was 0", 0, 8, 0);
        x = Check.garden("T011C510C090");
        Check.minutes(x, "WISH is 0 just when a stronger one ASKS", 1, 1, 1, 1, 1, 2);
        Check.child(x, "no howl at WISH 0", 0, 8, 0);
        x = Check.garden("T011C610C090");
        Check.minutes(x, "WISH is 1 when a stronger one ASKS", 1, 1, 1, 1, 1, 2);
        Check.child(x, "a howl at WISH 1", 0, 8, 1);
        x = Check.garden("T011C910C992");
        Check.minutes(x, "a SHY one pushes nobody off", 1, 1, 1, 1, 1, 1, 1, 1, 1, 0);
        Check.child(x, "a SHY one stares", 1, 6, 9);
    }

    private static void minuteByNoneGivers() {
        OneTricycle x = Check.garden("T021C693C910");
        Check.minutes(x, "a GIVER gives to a weaker one", 1, 1, 2);
        Check.child(x, "a GIVER does not howl", 0, 8, 0);
        x = Check.garden("T021C690C910");
        Check.minutes(x, "a PLAIN one does not give", 1, 1, 1, 1, 1, 1, 2);
        x = Check.garden("T021C691C910");
        Check.minutes(x, "a BITER does not give", 1, 1, 1, 1, 1, 1, 2);
        x = Check.garden("T021C693C010");
        Check.minutes(x, "a GIVER rides on while nobody ASKS", 1, 1, 1, 1, 1, 2);
        x = Check.garden("T021C993C910");
        Check.minutes(x, "a GIVER that WANTS on", 1, 1, 1);
        Check.child(x, "it got off, and on again", 0, 4, 1);
        Check.child(x, "it got off, and on again", 0, 5, 3);
        x = Check.garden("T011C913C420");
        Check.minutes(x, "a GIVER pushed off", 1, 2);
        Check.child(x, "a GIVER pushed off howls", 0, 8, 1);
    }

    private static void minuteGetsOffInOrder() {
        OneTricycle x = Check.garden("T012C993C950C910");
        Check.minutes(x, "the GIVER gets off, ASKS, and pushes the other one off", 3, 3);
        Check.child(x, "GIVER", 0, 8, 0);
        Check.child(x, "pushed off by who got off", 1, 8, 1);
        Check.child(x, "on again", 0, 4, 1);
        Check.child(x, "on again", 1, 4, 1);
        Check.child(x, "never on", 2, 5, 0);
        Check.about(x, "the weaker one got on last", 8, 1);
        x = Check.garden("T012C950C993C910");
        Check.minutes(x, "the GIVER is the greater one: nobody is pushed off", 3, 3);
        Check.child(x, "looked at ahead of the GIVER", 0, 8, 0);
        Check.child(x, "looked at ahead of the GIVER", 0, 4, 2);
        Check.child(x, "GIVER", 1, 4, 1);
        x = Check.garden("T122C590C510C490");
        Check.minutes(x, "turns of 2, two things", 3, 3);
        Check.minutes(x, "both off, who ASKS gets on, others have WISH 3", 4);
    }

    private static void minuteBySand() {
        OneTricycle x = Check.garden("T121C990C990C910");
        Check.minutes(x, "turns of 2, who has RIDDEN least", 1, 1, 2, 2, 4, 4, 1, 1);
        Check.child(x, "by SAND", 0, 5, 4);
        Check.child(x, "by SAND", 2, 5, 2);
        Check.child(x, "nobody howls by SAND", 2, 8, 0);
        x = Check.garden("T121C910C112");
        Check.minutes(x, "nobody ASKS: no end of a turn", 1, 1, 1, 1, 1, 1, 1, 1, 1, 0);
        x = Check.garden("T131C910C990");
        Check.minutes(x, "by SAND nobody is pushed off", 1, 1, 1, 2);
        Check.child(x, "a turn's end is no howl", 0, 8, 0);
    }

    private static void minuteByLine() {
        OneTricycle x = Check.garden("T221C990C290C490");
        Check.minutes(x, "nobody ASKS but 0", 1, 1);
        Check.child(x, "STARED since", 1, 7, 0);
        Check.child(x, "STARED since", 2, 7, 2);
        Check.minutes(x, "2 has STARED most", 4, 4);
        Check.child(x, "STARED since it rode", 0, 7, 2);
        Check.child(x, "STARED since", 1, 7, 2);
        Check.child(x, "STARED since it rode", 2, 7, 0);
        Check.child(x, "STARED in all", 2, 6, 2);
        Check.minutes(x, "2 2 STARED since: the least", 1);
        Check.minutes(x, "its turn", 1);
        Check.minutes(x, "1 has STARED most", 2);
    }

    private static void minuteByList() {
        OneTricycle x = Check.garden("T311C990C912C110C990");
        Check.minutes(x, "round and round", 1, 2, 8, 1, 2, 4, 8, 1);
        Check.about(x, "by the LIST", 8, 0);
        x = Check.garden("T312C990C990C990C990C990");
        Check.minutes(x, "two at a time", 0b00011, 0b01100, 0b10001, 0b00110, 0b11000);
        Check.about(x, "by the LIST", 8, 4);
    }

    private static void minuteWishes() {
        OneTricycle x = Check.garden("T011C440C010");
        Check.minutes(x, "nobody RIDES", 0, 0);
        Check.child(x, "nobody RIDES: no more WISH", 0, 0, 4);
        Check.child(x, "nobody RIDES: no more WISH", 1, 0, 0);
        Check.child(x, "nobody RIDES: nobody stares", 0, 6, 0);
        Check.about(x, "minutes pass", 9, 2);
        x = Check.garden("T091C910C310C912C510");
        Check.minutes(x, "WISHES", 1);
        int[] wishes = {8, 4, 9, 6};
        int[] stared = {0, 0, 1, 1};
        for (int child = 0; child < 4; child++) {
            Check.child(x, "a minute on", child, 0, wishes[child]);
            Check.child(x, "a minute on", child, 6, stared[child]);
            Check.child(x, "a minute on", child, 7, stared[child]);
        }
        x = Check.garden("T011C510");
        Check.minutes(x, "WISH 5 rides 5 minutes", 1, 1, 1, 1, 1, 0, 0);
        Check.child(x, "WISH stays 0", 0, 0, 0);
        Check.child(x, "off", 0, 4, 0);
        Check.child(x, "RIDDEN", 0, 5, 5);
        x = Check.garden("T011C090C910");
        Check.due("rides", x.minute(), 2);
        Check.due("called", x.call(0), 1);
        Check.due("given to one of no WISH", x.give(1, 0), 1);
        Check.due("it gets off at once, the other one on", x.minute(), 2);
        Check.child(x, "no howl", 0, 8, 0);
    }

    private static void minuteOfTwoThings() {
        OneTricycle x = Check.garden("T012C910C920C930");
        Check.minutes(x, "the two of greatest MIGHT", 6);
        Check.about(x, "the one of less MIGHT got on last", 8, 1);
        x = Check.garden("T012C910");
        Check.minutes(x, "one for two things", 1);
        x = Check.garden("T012C440C930");
        Check.minutes(x, "a free thing is taken when one ASKS", 2, 3);
    }

    private static void give() {
        OneTricycle x = Check.garden("T091C990C110C952");
        Check.minutes(x, "rides", 1, 1, 1);
        String before = Check.told(x);
        Check.due("give(3, 0)", x.give(3, 0), OneTricycle.UNKNOWN);
        Check.due("give(0, 3)", x.give(0, 3), OneTricycle.UNKNOWN);
        Check.due("give(0, -1)", x.give(0, -1), OneTricycle.UNKNOWN);
        Check.due("give(-1, 0)", x.give(-1, 0), OneTricycle.UNKNOWN);
        Check.due("give(5, 5)", x.give(5, 5), OneTricycle.UNKNOWN);
        Check.due("give(0, 0)", x.give(0, 0), OneTricycle.BAD);
        Check.due("give(1, 1)", x.give(1, 1), OneTricycle.BAD);
        Check.due("give(1, 0)", x.give(1, 0), OneTricycle.LATE);
        Check.due("give(1, 2)", x.give(1, 2), OneTricycle.LATE);
        Check.same("give refused", Check.told(x), before);
        Check.due("give(0, 2)", x.give(0, 2), 3);
        Check.about(x, "given", 4, 4);
        Check.about(x, "given: LAST", 8, 2);
        Check.about(x, "given: no minute", 9, 3);
        Check.about(x, "given: an ACT", 10, 4);
        Check.child(x, "given", 0, 4, 0);
        Check.child(x, "given", 0, 5, 3);
        Check.child(x, "given: no howl", 0, 8, 0);
        Check.child(x, "given", 2, 4, 0);
        Check.child(x, "given: STARED in all", 2, 6, 3);
        Check.child(x, "given: STARED since it rode", 2, 7, 0);
        Check.child(x, "given: WISH", 2, 0, 9);
        Check.due("give on at once", x.give(2, 1), 0);
        Check.about(x, "given on", 4, 2);
        x = Check.garden("T112C990C990C990");
        Check.minutes(x, "two ride", 3);
        Check.due("to one that RIDES", x.give(0, 1), OneTricycle.LATE);
        Check.due("give(1, 2)", x.give(1, 2), 1);
        Check.about(x, "given of two", 4, 5);
    }

    private static void push() {
        OneTricycle x = Check.garden("T111C990C990");
        Check.due("push, nobody RIDES", x.push(0), OneTricycle.LATE);
        Check.minutes(x, "rides", 1);
        String before = Check.told(x);
        Check.due("push(1)", x.push(1), OneTricycle.LATE);
        Check.due("push(2)", x.push(2), OneTricycle.UNKNOWN);
        Check.due("push(-1)", x.push(-1), OneTricycle.UNKNOWN);
        Check.due("push(greatest)", x.push(Integer.MAX_VALUE), OneTricycle.UNKNOWN);
        Check.due("push(32)", x.push(32), OneTricycle.UNKNOWN);
        Check.same("push refused", Check.told(x), before);
        Check.due("push(0)", x.push(0), 1);
        Check.about(x, "pushed", 4, 0);
        Check.about(x, "pushed: LAST", 8, 0);
        Check.about(x, "pushed: an ACT", 10, 2);
        Check.child(x, "pushed", 0, 4, 0);
        Check.child(x, "pushed", 0, 5, 1);
        Check.child(x, "pushed", 0, 8, 1);
        Check.due("push again", x.push(0), OneTricycle.LATE);
        Check.minutes(x, "on", 2, 1);
        Check.due("pushed once more", x.push(0), 2);
    }

    private static void call() {
        OneTricycle x = Check.garden("T111C990C790C010");
        Check.minutes(x, "rides", 1);
        Check.due("call(2)", x.call(2), 1);
        String before = Check.told(x);
        Check.due("call(0), it RIDES", x.call(0), OneTricycle.LATE);
        Check.due("call(2), it has no WISH", x.call(2), OneTricycle.LATE);
        Check.due("call(3)", x.call(3), OneTricycle.UNKNOWN);
        Check.due("call(-1)", x.call(-1), OneTricycle.UNKNOWN);
        Check.due("call(least)", x.call(Integer.MIN_VALUE), OneTricycle.UNKNOWN);
        Check.same("call refused", Check.told(x), before);
        Check.due("call(1)", x.call(1), 8);
        Check.child(x, "called", 1, 0, 0);
        Check.child(x, "called: STARED stays", 1, 6, 1);
        Check.child(x, "called: STARED since stays", 1, 7, 1);
        Check.about(x, "called: WANTS", 5, 0);
        Check.about(x, "called: an ACT", 10, 3);
        Check.minutes(x, "nobody ASKS", 1);
    }

    private static void rule() {
        OneTricycle x = Check.garden("T121C990C990");
        String before = Check.told(x);
        Check.due("rule(1, 2)", x.rule(1, 2), OneTricycle.LATE);
        Check.due("rule(-1, 2)", x.rule(-1, 2), OneTricycle.BAD);
        Check.due("rule(4, 2)", x.rule(4, 2), OneTricycle.BAD);
        Check.due("rule(1, 0)", x.rule(1, 0), OneTricycle.BAD);
        Check.due("rule(1, 10)", x.rule(1, 10), OneTricycle.BAD);
        Check.same("rule refused", Check.told(x), before);
        Check.due("rule(1, 9)", x.rule(1, 9), 1);
        Check.about(x, "ruled", 1, 1);
        Check.about(x, "ruled", 2, 9);
        Check.due("rule(3, 9)", x.rule(3, 9), 1);
        Check.due("rule(0, 1)", x.rule(0, 1), 3);
        Check.about(x, "ruled", 1, 0);
        Check.about(x, "ruled", 2, 1);
        Check.about(x, "ruled: ACTS", 10, 3);
        Check.about(x, "ruled: no minute", 9, 0);
        x = Check.garden("T191C990C990");
        Check.minutes(x, "turns of 9", 1, 1, 1);
        Check.due("turns of 3", x.rule(1, 3), 1);
        Check.minutes(x, "what it rode counts", 2);
    }

    private static void put() {
        OneTricycle x = Check.garden("T111C990C990C990");
        Check.minutes(x, "one", 1, 2);
        Check.due("put", x.put(), 2);
        Check.about(x, "put: nobody gets on yet", 4, 2);
        Check.about(x, "put", 3, 2);
        Check.minutes(x, "two", 5);
        Check.due("put back", x.put(), 1);
        Check.about(x, "the greater one gets off", 4, 1);
        Check.child(x, "the greater one gets off", 2, 4, 0);
        Check.child(x, "no howl", 2, 8, 0);
        Check.about(x, "LAST stays", 8, 0);
        Check.child(x, "the other one rides on", 0, 4, 1);
        Check.about(x, "ACTS", 10, 5);
        x = Check.garden("T112C110C990");
        Check.minutes(x, "one rides of two things", 2);
        Check.due("put back", x.put(), 1);
        Check.about(x, "it rides on", 4, 2);
        x = Check.garden("T312C990C990C990");
        Check.minutes(x, "two ride", 3);
        Check.due("put back", x.put(), 1);
        Check.about(x, "the greater one, LAST, gets off", 4, 1);
        Check.about(x, "who was LAST stays so", 8, 1);
    }

    private static void undo() {
        OneTricycle x = Check.garden("T022C950C631C772C813C390");
        String[] told = new String[12];
        told[0] = Check.told(x);
        for (int k = 1; k <= 4; k++) {
            x.minute();
            told[k] = Check.told(x);
        }
        int riders = x.about(4);
        int rider = Integer.numberOfTrailingZeros(riders);
        int other = Integer.numberOfTrailingZeros(~riders);
        Check.holds("give", x.give(rider, other) >= 0);
        told[5] = Check.told(x);
        Check.due("push", x.push(other), x.child(other, 8));
        told[6] = Check.told(x);
        Check.holds("call", x.call(other) > 0);
        told[7] = Check.told(x);
        Check.due("rule", x.rule(2, 4), 0);
        told[8] = Check.told(x);
        x.put();
        told[9] = Check.told(x);
        x.put();
        told[10] = Check.told(x);
        x.minute();
        for (int left = 10; left >= 0; left--) {
            Check.due("undo", x.undo(), left);
            Check.same("undone, " + left + " left", Check.told(x), told[left]);
        }
        Check.due("undo, none", x.undo(), OneTricycle.LATE);
        Check.same("undo refused", Check.told(x), told[0]);
        x.see(0, 1);
        x.seed(4);
        x.minute();
        x.see(1, 1);
        x.days(3);
        long seed = x.seed(1);
        x.seed(seed);
        Check.due("undo", x.undo(), 0);
        Check.about(x, "SEEN is not undone", 11, 2);
        Check.due("THE SEED is not undone", x.seed(0), seed);
    }

    private static void undoForgets() {
        OneTricycle x = Check.garden("T111C990C990");
        for (int k = 1; k <= 14; k++) {
            x.minute();
            Check.about(x, "ACTS", 10, k);
        }
        x.minute();
        Check.about(x, "14 ACTS at most", 10, 14);
        Check.due("put", x.put(), 2);
        Check.about(x, "14 ACTS at most", 10, 14);
        for (int left = 13; left >= 0; left--) {
            Check.due("undo", x.undo(), left);
        }
        Check.about(x, "the first two are forgotten", 9, 2);
        Check.about(x, "the first two are forgotten", 4, 2);
        Check.due("undo, none", x.undo(), OneTricycle.LATE);
        x.minute();
        x.minute();
        Check.about(x, "on from there", 10, 2);
        Check.due("undo", x.undo(), 1);
        Check.due("undo", x.undo(), 0);
        Check.about(x, "undone again", 9, 2);
    }
}
