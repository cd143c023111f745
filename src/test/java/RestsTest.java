/** Promises 26 to 29: two at rest, CHANCE, THE SEED and DAYS. */
public final class RestsTest {
    public static void main(String[] args) {
        rests();
        restsRefused();
        chance();
        chanceOfTwoThings();
        chanceRefused();
        seed();
        days();
        daysRefused();
        Check.end("RestsTest");
    }

    private static void restsDue(OneTricycle x, int child, int other, int count, int first) {
        Check.due("rests(" + child + ", " + other + ", 0)", x.rests(child, other, 0), count);
        Check.due("rests(" + child + ", " + other + ", 1)", x.rests(child, other, 1), first);
    }

    private static void rests() {
        // MIGHTS 5 5 3 9 4, WISHES 9 9 2 1 0
        OneTricycle x = Check.garden("T011C950C931C230C190C043");
        restsDue(x, 0, 1, 2, 1);
        restsDue(x, 0, 2, 1, 1);
        restsDue(x, 2, 0, 1, 10);
        // 3, the stronger one, has a WISH of 1: by 3 (cut) nothing, so it may give as well
        restsDue(x, 2, 3, 2, 1);
        restsDue(x, 3, 2, 2, 1);
        // WISHES 1 and 0, by 2 (cut) nothing: both may give, too
        restsDue(x, 3, 4, 3, 1);
        restsDue(x, 4, 3, 3, 1);
        // the stronger one, 4, has a WISH of 0, the other one 2
        restsDue(x, 2, 4, 2, 1);
        x = Check.garden("T011C350C210");
        restsDue(x, 0, 1, 1, 1);
        restsDue(x, 1, 0, 1, 10);
        x = Check.garden("T011C250C110");
        restsDue(x, 0, 1, 2, 1);
        x = Check.garden("T011C110C110");
        restsDue(x, 0, 1, 3, 1);
        // MIGHTS 4 and 5
        x = Check.garden("T011C940C950");
        restsDue(x, 0, 1, 1, 10);
        restsDue(x, 1, 0, 1, 1);
        Check.about(x, "nothing is changed", 10, 0);
    }

    private static void restsRefused() {
        OneTricycle x = Check.garden("T011C350C210");
        Check.due("rests(2, 0, 0)", x.rests(2, 0, 0), OneTricycle.UNKNOWN);
        Check.due("rests(0, 2, 0)", x.rests(0, 2, 0), OneTricycle.UNKNOWN);
        Check.due("rests(-1, 0, 0)", x.rests(-1, 0, 0), OneTricycle.UNKNOWN);
        Check.due("rests(0, -1, 2)", x.rests(0, -1, 2), OneTricycle.UNKNOWN);
        Check.due("rests(2, 2, 2)", x.rests(2, 2, 2), OneTricycle.UNKNOWN);
        Check.due("rests(0, 0, 0)", x.rests(0, 0, 0), OneTricycle.BAD);
        Check.due("rests(0, 1, 2)", x.rests(0, 1, 2), OneTricycle.BAD);
        Check.due("rests(0, 1, -1)", x.rests(0, 1, -1), OneTricycle.BAD);
    }

    private static void chanceDue(String where, OneTricycle x, int[] asked, int above, int below) {
        String call = where + ": chance(" + asked[0] + ", " + asked[1] + ", " + asked[2] + ")";
        Check.due(call + " above", x.chance(asked[0], asked[1], asked[2], true), above);
        Check.due(call + " below", x.chance(asked[0], asked[1], asked[2], false), below);
    }

    private static int[] of(int child, int n, int x) {
        return new int[] {child, n, x};
    }

    private static void chance() {
        OneTricycle x = Check.garden("T191C990C990");
        chanceDue("nobody RIDES yet", x, of(0, 1, 3), 1, 1);
        chanceDue("nobody RIDES yet", x, of(1, 1, 10), 0, 1);
        // in the second minute a worm lets 0 off, and 1, that has RIDDEN least, on
        chanceDue("turns of 9", x, of(0, 2, 3), 7, 10);
        chanceDue("turns of 9", x, of(1, 2, 3), 3, 10);
        // no worm twice: 0; two worms: 1, then, as both have RIDDEN alike, 0; else 1: 49 and 9 of 100
        chanceDue("turns of 9", x, of(0, 3, 3), 29, 50);
        Check.same("nothing is changed", Check.told(x), Check.told(Check.garden("T191C990C990")));
        Check.minutes(x, "0 RIDES", 1);
        chanceDue("0 RIDES", x, of(0, 1, 0), 1, 1);
        chanceDue("0 RIDES", x, of(0, 1, 10), 0, 1);
        chanceDue("0 RIDES", x, of(0, 1, 5), 1, 2);
        chanceDue("0 RIDES", x, of(1, 1, 4), 2, 5);
        chanceDue("0 RIDES", x, of(0, 6, 0), 1, 1);
        Check.child(x, "a worm is no howl", 0, 8, 0);
        x = Check.garden("T011C990C410");
        Check.minutes(x, "0 RIDES, by NONE", 1);
        // ahead of the fifth its WISH is 4: it does not ASK, when it got off
        chanceDue("of greater MIGHT it gets on again", x, of(0, 4, 9), 1, 1);
        chanceDue("the other one", x, of(1, 4, 9), 0, 1);
        chanceDue("it does not ASK any more", x, of(0, 5, 9), 1, 10);
        chanceDue("the other one", x, of(1, 5, 9), 9, 10);
        x = Check.garden("T011C510");
        Check.minutes(x, "alone, WISH 4", 1);
        chanceDue("a worm is the end", x, of(0, 1, 3), 7, 10);
        chanceDue("a worm is the end", x, of(0, 4, 3), 2401, 10_000);
        chanceDue("WISH is 0", x, of(0, 5, 3), 0, 1);
        x = Check.garden("T011C910");
        Check.minutes(x, "alone, WISH 8", 1);
        // off with WISH 8 .. 5 it gets on again; from WISH 4 on a worm is the end
        chanceDue("alone", x, of(0, 4, 9), 1, 1);
        chanceDue("alone", x, of(0, 5, 9), 1, 10);
        chanceDue("alone", x, of(0, 6, 9), 1, 100);
    }

    private static void chanceOfTwoThings() {
        OneTricycle x = Check.garden("T092C550C510C490");
        Check.minutes(x, "two RIDE, WISHES 4 4 5", 3);
        Check.child(x, "2 ASKS", 2, 0, 5);
        // 2 pushes both off as it is, and rides alone; so it does behind a worm
        chanceDue("pushed off", x, of(2, 1, 5), 1, 1);
        chanceDue("pushed off", x, of(0, 1, 5), 0, 1);
        x = Check.garden("T192C550C510");
        Check.minutes(x, "two RIDE, WISHES 4 4", 3);
        chanceDue("one worm for all", x, of(0, 2, 5), 1, 4);
        chanceDue("one worm for all", x, of(1, 2, 5), 1, 4);
        x = Check.garden("T192C990C550C990");
        Check.minutes(x, "0 and 1 RIDE, WISHES 8 4 9", 3);
        // a worm lets both off: 2, that has not RIDDEN, and 0 get on
        chanceDue("all get off", x, of(2, 1, 2), 1, 5);
        chanceDue("all get off", x, of(1, 1, 2), 4, 5);
        chanceDue("all get off, it gets on again", x, of(0, 1, 2), 1, 1);
    }

    private static void chanceRefused() {
        OneTricycle x = Check.garden("T111C990C990");
        Check.due("chance(2)", x.chance(2, 1, 1, true), OneTricycle.UNKNOWN);
        Check.due("chance(-1)", x.chance(-1, 0, 11, true), OneTricycle.UNKNOWN);
        Check.due("chance n = 0", x.chance(0, 0, 1, true), OneTricycle.BAD);
        Check.due("chance n = 7", x.chance(0, 7, 1, false), OneTricycle.BAD);
        Check.due("chance n = greatest", x.chance(0, Integer.MAX_VALUE, 1, false), OneTricycle.BAD);
        Check.due("chance x = -1", x.chance(0, 1, -1, true), OneTricycle.BAD);
        Check.due("chance x = 11", x.chance(0, 1, 11, false), OneTricycle.BAD);
    }

    private static void seed() {
        OneTricycle x = new OneTricycle();
        Check.due("0 at first", x.seed(Long.MIN_VALUE), 0);
        Check.due("seed", x.seed(Long.MAX_VALUE), Long.MIN_VALUE);
        Check.due("seed", x.seed(-1), Long.MAX_VALUE);
        Check.due("seed", x.seed(0), -1);
        Check.about(x, "no ACT", 10, 0);
    }

    private static void days() {
        OneTricycle x = Check.garden("T191C990C990C992");
        long seed = 12345;
        x.seed(seed);
        for (int m = 1; m <= 30; m++) {
            // the same day, told by ACTS on a twin
            OneTricycle twin = Check.garden("T191C990C990C992");
            for (int k = 0; k < m; k++) {
                seed = seed * 6364136223846793005L + 1442695040888963407L;
                int left = (int) Long.remainderUnsigned(seed >>> 33, 10);
                if (left < 5) {
                    twin.call(left);
                } else {
                    twin.minute();
                }
            }
            int stared = twin.child(0, 6) + twin.child(1, 6) + twin.child(2, 6);
            Check.due("days(" + m + ")", x.days(m), stared);
            long now = x.seed(0);
            Check.due("THE SEED after days(" + m + ")", now, seed);
            x.seed(now);
        }
        Check.same("nothing but THE SEED is changed", Check.told(x), Check.told(Check.garden("T191C990C990C992")));
        x.minute();
        x.minute();
        x.seed(0);
        // from 0 on the upper 31 bits are 167951807: A MINUTE; then 218396424: there is no child 4
        Check.due("from 0: A MINUTE, two stare", x.days(1), 2);
        Check.due("THE SEED", x.seed(0), 1442695040888963407L);
        Check.due("from 0: A MINUTE, then nobody is CALLED", x.days(2), 2);
        Check.due("THE SEED", x.seed(-9009062239196196843L), 1876011003808476466L);
        Check.due("child 1 is CALLED", x.days(1), 0);
        Check.child(x, "no one is CALLED for good", 1, 0, 9);
    }

    private static void daysRefused() {
        OneTricycle x = Check.garden("T111C990C990");
        x.seed(8);
        Check.due("days(0)", x.days(0), OneTricycle.BAD);
        Check.due("days(31)", x.days(31), OneTricycle.BAD);
        Check.due("days(-1)", x.days(-1), OneTricycle.BAD);
        Check.due("days(greatest)", x.days(Integer.MAX_VALUE), OneTricycle.BAD);
        Check.due("THE SEED stays", x.seed(0), 8);
        Check.due("nobody is there", new OneTricycle().days(30), 0);
    }
}
