import java.math.BigInteger;

/** Promises 26 to 29 at their edges, sentence by sentence. */
final class RestsEdges {
    private static final int BAD = OneTricycle.BAD, UNKNOWN = OneTricycle.UNKNOWN;
    private static final long TIMES = 6364136223846793005L, MORE = 1442695040888963407L;

    private RestsEdges() {
    }

    static void run() {
        restsOfLikeMight();
        restsOfMoreMight();
        restsWhenBothGive();
        restsWhenBothHoldOn();
        restsPairs();
        restsRefused();
        chanceOfTenths();
        chanceOfMinutes();
        chanceAhead();
        chanceOfAllThatRide();
        chanceIsAFraction();
        chanceRefused();
        seed();
        seedSteps();
        seedWraps();
        daysByWhatIsLeft();
        daysCallWhoCanBe();
        daysTellWhatIsMore();
        daysChangeTheSeedAlone();
        daysRefused();
    }

    private static void restsDue(OneTricycle x, int child, int other, int count, int first) {
        Check.due("rests(" + child + ", " + other + ", 0)", x.rests(child, other, 0), count);
        Check.due("rests(" + child + ", " + other + ", 1)", x.rests(child, other, 1), first);
    }

    private static OneTricycle two(int wish, int strength, int otherWish, int otherStrength) {
        return Check.garden("T011C" + wish + strength + "0C" + otherWish + otherStrength + "0");
    }

    private static void restsOfLikeMight() {
        Sentence.of(26, "RESTS of two CHILDREN: each gives (1) or holds on (0):");
        for (int wish = 0; wish <= 9; wish++) {
            for (int other = 0; other <= 9; other++) {
                // one holds on while the other one gives; both give where neither has a WISH worth 1 when cut
                restsDue(two(wish, 5, other, 5), 0, 1, wish <= 1 && other <= 1 ? 3 : 2, 1);
            }
        }
        OneTricycle x = Check.garden("T011C931C950");
        restsDue(x, 0, 1, 2, 1);
        restsDue(x, 1, 0, 2, 1);
    }

    private static void restsOfMoreMight() {
        Sentence.of(26, "who has more MIGHT has its WISH by 3 (cut), the other one 2 less than nothing (alike: 1 less each):");
        for (int wish = 0; wish <= 9; wish++) {
            for (int other = 0; other <= 9; other++) {
                int both = wish <= 1 && other <= 1 ? 1 : 0;
                int mayGive = wish <= 2 ? 1 : 0;
                OneTricycle x = two(wish, 6, other, 5);
                restsDue(x, 0, 1, 1 + mayGive + both, 1);
                restsDue(x, 1, 0, 1 + mayGive + both, mayGive == 1 ? 1 : 10);
            }
        }
    }

    private static void restsWhenBothGive() {
        Sentence.of(26, "if both give, each has 3;");
        Check.due("WISHES 1 and 1", two(1, 5, 1, 5).rests(0, 1, 0), 3);
        Sentence.of(26, "if one gives, and the other one holds on, the one has 0, the other one 3 and its WISH by 2 (cut);");
        Check.due("WISHES 2 and 1: by 2 (cut) 1 and 0", two(2, 5, 1, 5).rests(0, 1, 0), 2);
        Check.due("WISHES 1 and 2: by 2 (cut) 0 and 1", two(1, 5, 2, 5).rests(0, 1, 0), 2);
    }

    private static void restsWhenBothHoldOn() {
        Sentence.of(26, "if both hold on,");
        Check.due("by 3 (cut) 0: the stronger one may give, too", two(2, 6, 9, 5).rests(0, 1, 0), 2);
        Check.due("by 3 (cut) 1: it does not", two(3, 6, 9, 5).rests(0, 1, 0), 1);
        Check.due("a MIGHT of 1 more", two(9, 6, 9, 5).rests(0, 1, 0), 1);
        Check.due("alike", two(9, 5, 9, 5).rests(0, 1, 0), 2);
        Check.due("a MIGHT of 1 less", two(9, 5, 9, 6).rests(0, 1, 0), 1);
        Check.due("BITER: 2 more, alike", Check.garden("T011C951C970").rests(0, 1, 0), 2);
        Check.due("BITER: 2 more, 1 less", Check.garden("T011C951C980").rests(0, 1, 1), 10);
        Check.due("BITER: 2 more, 1 more", Check.garden("T011C951C960").rests(0, 1, 1), 1);
    }

    /** Who has more MIGHT can always hold on while the other one gives: there is a pair in every garden. */
    private static void restsPairs() {
        Sentence.of(26, "pairs in which neither has more by another choice alone: how many; the first one (10 times the one and the other); NONE.");
        restsDue(two(9, 6, 9, 5), 0, 1, 1, 1);
        restsDue(two(9, 5, 9, 6), 0, 1, 1, 10);
        restsDue(two(9, 5, 2, 6), 0, 1, 2, 1);
        restsDue(two(9, 5, 3, 6), 0, 1, 1, 10);
        Sentence.of(26, "RESTS: how many (what = 0), the first one (1; NONE).");
        OneTricycle x = two(0, 9, 0, 1);
        restsDue(x, 0, 1, 3, 1);
        Check.due("rests(0, 1, -1)", x.rests(0, 1, -1), BAD);
        Check.due("rests(0, 1, 2)", x.rests(0, 1, 2), BAD);
        // 1, the stronger one, has a WISH of 2, and of 3 a minute on
        x = Check.garden("T011C920C230");
        restsDue(x, 1, 0, 2, 1);
        Check.minutes(x, "0 RIDES", 1);
        restsDue(x, 1, 0, 1, 1);
    }

    private static void restsRefused() {
        Sentence.of(26, "UNKNOWN: child, other; BAD: both are one, what.");
        OneTricycle x = two(9, 5, 9, 5);
        for (int wrong : new int[] {-1, 2, 5, Integer.MIN_VALUE, Integer.MAX_VALUE}) {
            for (int what : new int[] {-1, 0, 1, 2}) {
                Check.due("rests(" + wrong + ", 0, " + what + ")", x.rests(wrong, 0, what), UNKNOWN);
                Check.due("rests(1, " + wrong + ", " + what + ")", x.rests(1, wrong, what), UNKNOWN);
                Check.due("rests(" + wrong + ", " + wrong + ", " + what + ")", x.rests(wrong, wrong, what), UNKNOWN);
            }
        }
        for (int what = -1; what <= 2; what++) {
            Check.due("rests(0, 0, " + what + ")", x.rests(0, 0, what), BAD);
            Check.due("rests(1, 1, " + what + ")", x.rests(1, 1, what), BAD);
        }
    }

    private static void chanceDue(OneTricycle x, int child, int n, int tenths, int above, int below) {
        String call = "chance(" + child + ", " + n + ", " + tenths + ")";
        Check.due(call + " above", x.chance(child, n, tenths, true), above);
        Check.due(call + " below", x.chance(child, n, tenths, false), below);
    }

    /** 0 RIDES with a WISH of 8, 1 stares; in turns of 9. */
    private static OneTricycle oneRides(int rule) {
        OneTricycle x = Check.garden("T" + rule + "91C990C990");
        Check.minutes(x, "0 RIDES", 1);
        return x;
    }

    private static void chanceOfTenths() {
        Sentence.of(27, "all that RIDE get off by x tenths (0 .. 10), by itself (a worm):");
        OneTricycle x = oneRides(1);
        int[][] due = {{1, 1}, {9, 10}, {4, 5}, {7, 10}, {3, 5}, {1, 2}, {2, 5}, {3, 10}, {1, 5}, {1, 10}, {0, 1}};
        for (int tenths = 0; tenths <= 10; tenths++) {
            chanceDue(x, 0, 1, tenths, due[tenths][0], due[tenths][1]);
            chanceDue(x, 1, 1, tenths, due[10 - tenths][0], due[10 - tenths][1]);
        }
        Check.due("x = -1", x.chance(0, 1, -1, true), BAD);
        Check.due("x = 11", x.chance(0, 1, 11, true), BAD);
    }

    private static void chanceOfMinutes() {
        Sentence.of(27, "CHANCE of a CHILD and n (1 .. 6):");
        OneTricycle x = oneRides(1);
        for (int n = 1; n <= 6; n++) {
            chanceDue(x, 0, n, 0, 1, 1);
            chanceDue(x, 1, n, 0, 0, 1);
            chanceDue(x, 0, n, 10, n % 2 == 1 ? 0 : 1, 1);
            chanceDue(x, 1, n, 10, n % 2 == 1 ? 1 : 0, 1);
        }
        // in turns of 1, without a worm: 0 in odd minutes, 1 in even ones
        x = Check.garden("T111C990C990");
        for (int n = 1; n <= 6; n++) {
            chanceDue(x, 0, n, 0, n % 2, 1);
            chanceDue(x, 1, n, 0, 1 - n % 2, 1);
        }
        Check.due("n = 0", x.chance(0, 0, 5, true), BAD);
        Check.due("n = 7", x.chance(0, 7, 5, true), BAD);
    }

    private static void chanceAhead() {
        Sentence.of(27, "ahead of each of n MINUTES");
        OneTricycle x = Check.garden("T191C990C990");
        chanceDue(x, 0, 1, 10, 1, 1);
        chanceDue(x, 0, 2, 10, 0, 1);
        // off with a WISH of 8 to 5 it gets on again; from the fifth minute on a worm is the end
        x = Check.garden("T011C910");
        Check.minutes(x, "alone", 1);
        chanceDue(x, 0, 4, 5, 1, 1);
        chanceDue(x, 0, 5, 5, 1, 2);
        chanceDue(x, 0, 6, 5, 1, 4);
        chanceDue(x, 0, 6, 1, 81, 100);
        chanceDue(x, 0, 6, 10, 0, 1);
    }

    private static void chanceOfAllThatRide() {
        Sentence.of(27, "all that RIDE get off");
        OneTricycle x = Check.garden("T192C990C550C990");
        Check.minutes(x, "0 and 1 RIDE, WISHES 8 4 9", 3);
        // both get off: 2, that has not RIDDEN, and 0 get on
        chanceDue(x, 2, 1, 2, 1, 5);
        chanceDue(x, 1, 1, 2, 4, 5);
        chanceDue(x, 0, 1, 2, 1, 1);
    }

    private static void chanceIsAFraction() {
        Sentence.of(27, "that the CHILD RIDES then: a FRACTION.");
        // by the LIST each worm lets the other one on: (1 + (1 - x / 5) to the n) / 2
        OneTricycle x = oneRides(3);
        chanceDue(x, 0, 6, 1, 19721, 31250);
        chanceDue(x, 1, 6, 1, 11529, 31250);
        chanceDue(x, 0, 5, 1, 4149, 6250);
        chanceDue(x, 0, 6, 3, 15689, 31250);
        chanceDue(x, 0, 6, 9, 19721, 31250);
        chanceDue(x, 0, 6, 5, 1, 2);
        Sentence.of(27, "CHANCE.");
        chanceDue(x, 0, 2, 1, 41, 50);
        chanceDue(x, 1, 2, 1, 9, 50);
        Sentence.of(27, "FRACTIONS are told above (upper = true), below, in least terms.");
        chanceDue(x, 0, 1, 2, 4, 5);
        chanceDue(x, 0, 1, 3, 7, 10);
        chanceDue(x, 0, 1, 10, 0, 1);
        chanceDue(x, 0, 1, 0, 1, 1);
    }

    private static void chanceRefused() {
        Sentence.of(27, "UNKNOWN; BAD: n, x.");
        OneTricycle x = oneRides(1);
        for (int child : new int[] {-1, 2, 5, Integer.MIN_VALUE, Integer.MAX_VALUE}) {
            Check.due("chance(" + child + ", 1, 1)", x.chance(child, 1, 1, true), UNKNOWN);
            Check.due("chance(" + child + ", 0, 11)", x.chance(child, 0, 11, false), UNKNOWN);
        }
        for (int n : new int[] {-1, 0, 7, Integer.MIN_VALUE, Integer.MAX_VALUE}) {
            Check.due("chance(0, " + n + ", 1)", x.chance(0, n, 1, true), BAD);
            Check.due("chance(0, " + n + ", 11)", x.chance(0, n, 11, false), BAD);
        }
        for (int tenths : new int[] {-1, 11, Integer.MIN_VALUE, Integer.MAX_VALUE}) {
            Check.due("chance(0, 6, " + tenths + ")", x.chance(0, 6, tenths, true), BAD);
        }
        Check.due("nobody is there", new OneTricycle().chance(0, 1, 1, true), UNKNOWN);
    }

    private static void seed() {
        Sentence.of(28, "THE SEED is v: what it was.");
        OneTricycle x = new OneTricycle();
        long was = 0;
        for (long v : new long[] {1, -1, Long.MAX_VALUE, Long.MIN_VALUE, 1L << 32, 0, 0}) {
            Check.due("seed(" + v + ")", x.seed(v), was);
            was = v;
        }
    }

    private static long seedOf(OneTricycle x) {
        long seed = x.seed(0);
        x.seed(seed);
        return seed;
    }

    private static void seedSteps() {
        Sentence.of(29, "DAYS by THE SEED: m times (1 .. 30) x (THE SEED, a long; 0 at first)");
        OneTricycle x = new OneTricycle();
        Check.due("days(1) of nobody", x.days(1), 0);
        Check.due("from 0 on", seedOf(x), MORE);
        long seed = MORE;
        for (int m = 1; m <= 30; m++) {
            x.days(m);
            for (int k = 0; k < m; k++) {
                seed = seed * TIMES + MORE;
            }
            Check.due("THE SEED after days(" + m + ")", seedOf(x), seed);
        }
        Check.due("days(0)", x.days(0), BAD);
        Check.due("days(31)", x.days(31), BAD);
        Check.due("THE SEED stays", seedOf(x), seed);
    }

    private static void seedWraps() {
        Sentence.of(29, "becomes x times 6364136223846793005 and 1442695040888963407 (64 bits, wrapping);");
        for (long v : new long[] {0, 1, 2, -1, -2, Long.MAX_VALUE, Long.MIN_VALUE, 1L << 33, 0x0123456789abcdefL}) {
            OneTricycle x = new OneTricycle();
            x.seed(v);
            x.days(1);
            BigInteger due = BigInteger.valueOf(v).multiply(new BigInteger("6364136223846793005"))
                .add(new BigInteger("1442695040888963407"));
            Check.due("THE SEED behind " + v, seedOf(x), due.longValue());
        }
    }

    /** The seed from which the next one is x. */
    private static long seedAhead(long x) {
        long inverse = TIMES;
        for (int k = 0; k < 6; k++) {
            inverse *= 2 - TIMES * inverse;
        }
        return (x - MORE) * inverse;
    }

    private static int left(long x) {
        return new BigInteger(Long.toUnsignedString(x)).shiftRight(33).mod(BigInteger.TEN).intValueExact();
    }

    /** A seed from which upper comes first (as the upper 31 bits), and then A MINUTE. */
    private static long seedFor(int upper) {
        for (long lower = 0; lower < 1000; lower++) {
            long x = (long) upper << 33 | lower;
            if (left(x * TIMES + MORE) >= 5) {
                return seedAhead(x);
            }
        }
        throw new IllegalStateException("no such seed");
    }

    private static void daysDue(OneTricycle x, int upper, int one, int two) {
        long v = seedFor(upper);
        x.seed(v);
        Check.due("days(1), upper bits " + upper, x.days(1), one);
        Check.due("the upper bits", x.seed(v) >>> 33, upper);
        Check.due("days(2), upper bits " + upper, x.days(2), two);
    }

    private static void daysByWhatIsLeft() {
        Sentence.of(29, "what is left of its upper 31 bits by 10:");
        OneTricycle x = Check.garden("T191C990C990C990C990C990");
        Check.minutes(x, "0 RIDES, four stare", 1);
        int[] tens = {0, 10, 1_073_741_820, 1_073_741_830, 2_147_483_630, 2_147_483_640};
        for (int ten : tens) {
            for (int left = 0; left <= 9 && ten + left >= 0; left++) {
                daysDue(x, ten + left, left >= 5 ? 4 : 0, left >= 5 ? 8 : left == 0 ? 4 : 3);
            }
        }
        x.seed(seedAhead((1L << 33) - 1));
        Check.due("the lower 33 bits do not count: 0", x.days(1), 0);
        x.seed(seedAhead((5L << 33) + (1L << 33) - 1));
        Check.due("the lower 33 bits do not count: 5", x.days(1), 4);
    }

    private static void daysCallWhoCanBe() {
        Sentence.of(29, "0 .. 4 that CHILD is CALLED, if it can be, 5 and more A MINUTE:");
        OneTricycle x = Check.garden("T191C990C990C990");
        Check.minutes(x, "0 RIDES, two stare", 1);
        // 0 RIDES, so it can not be CALLED; 1 and 2 can; there is no 3 and no 4
        int[] due = {2, 1, 1, 2, 2, 4, 4, 4, 4, 4};
        for (int left = 0; left <= 9; left++) {
            daysDue(x, left, left >= 5 ? 2 : 0, due[left]);
        }
        Check.due("nobody is there", new OneTricycle().days(30), 0);
    }

    private static void daysTellWhatIsMore() {
        Sentence.of(29, "what all have STARED more at last.");
        String text = "T191C990C990C992";
        for (int m = 1; m <= 30; m++) {
            OneTricycle x = Check.garden(text);
            OneTricycle twin = Check.garden(text);
            Check.minutes(x, "two stare", 1, 1);
            Check.minutes(twin, "two stare", 1, 1);
            long seed = 1000 + m;
            x.seed(seed);
            for (int k = 0; k < m; k++) {
                seed = seed * TIMES + MORE;
                if (left(seed) < 5) {
                    twin.call(left(seed));
                } else {
                    twin.minute();
                }
            }
            int stared = twin.child(0, 6) + twin.child(1, 6) + twin.child(2, 6);
            Check.due("days(" + m + ")", x.days(m), stared - 4);
        }
        Sentence.of(29, "DAYS.");
        OneTricycle x = Check.garden(text);
        x.seed(seedFor(5));
        Check.due("two MINUTES", x.days(2), 4);
    }

    private static void daysChangeTheSeedAlone() {
        Sentence.of(29, "(Nothing changes but THE SEED.)");
        for (int m : new int[] {1, 2, 30}) {
            Whole.unchanged("days(" + m + "), and THE SEED set back", Played::one, x -> {
                x.days(m);
                return x.seed(Played.SEED);
            });
        }
    }

    private static void daysRefused() {
        Sentence.of(29, "BAD: m.");
        OneTricycle x = Check.garden("T111C990C990");
        for (int m : new int[] {-1, 0, 31, 60, Integer.MIN_VALUE, Integer.MAX_VALUE}) {
            Check.due("days(" + m + ")", x.days(m), BAD);
        }
        Check.holds("days(1)", x.days(1) >= 0);
        Check.holds("days(30)", x.days(30) >= 0);
    }
}
