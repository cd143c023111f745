import java.util.Random;

/** All promises: runs of calls by chance (of seeds that stay), each answer held against the plain model's. */
public final class ModelTest {
    /** Each object is used for as many calls as the document lets it be; a round makes 100 at most. */
    private static final int RUNS = 3000, CALLS = 512, MOST_AT_ONCE = 160, CALLS_OF_AN_ASKING = 2;
    /** One run in so many is wild: its arguments are often out of their ranges, those of the others seldom. */
    private static final int WILD = 8;
    private static final int[] ODD = {Integer.MIN_VALUE, Integer.MIN_VALUE + 1, -10, -9, -2, -1, 6, 9, 10, 11, 21,
        31, 32, 33, 61, 64, 100, 256, 99_999_999, 100_000_000, Integer.MAX_VALUE};

    private final Random random;
    private final int oddOnes;
    private final OneTricycle x = new OneTricycle();
    private final Model model = new Model();
    private int calls = 0;

    private ModelTest(long seed) {
        random = new Random(seed);
        oddOnes = seed % WILD == 0 ? 4 : 40;
    }

    public static void main(String[] args) {
        for (int run = 0; run < RUNS; run++) {
            new ModelTest(run).run();
        }
        Check.end("ModelTest");
    }

    private void run() {
        boolean busy = random.nextBoolean();
        while (calls < CALLS - MOST_AT_ONCE) {
            if (random.nextInt(busy ? 150 : 40) == 0 || calls == 0 && busy) {
                newGarden();
            }
            if (random.nextInt(100) < 40) {
                act(random.nextInt(busy ? 11 : 20));
            } else {
                ask(random.nextInt(18));
            }
            if (random.nextInt(60) == 0) {
                whole();
            }
        }
        whole();
        while (calls <= CALLS - CALLS_OF_AN_ASKING) {
            ask(random.nextInt(18));
        }
        while (calls < CALLS) {
            act(random.nextInt(20));
        }
    }

    private void answer(String call, long got, long want) {
        calls++;
        if (calls > CALLS) {
            throw new IllegalStateException("a run of more calls than the document promises answers for");
        }
        Check.due("run by chance, call " + calls + ": " + call, got, want);
    }

    /** A number of least .. greatest, now and then one that is not. */
    private int some(int least, int greatest) {
        int dice = random.nextInt(oddOnes);
        if (dice == 0) {
            return random.nextInt(4) == 0 ? random.nextInt() : ODD[random.nextInt(ODD.length)];
        }
        if (dice == 1) {
            return random.nextBoolean() ? least - 1 : greatest + 1;
        }
        return least + random.nextInt(greatest - least + 1);
    }

    private int someChild() {
        return some(0, Math.max(0, model.about(0) - 1));
    }

    private void type(int letter) {
        answer("write(" + letter + ")", x.write(letter), model.write(letter));
    }

    private void newGarden() {
        if (random.nextInt(6) != 0) {
            answer("wipe()", x.wipe(), model.wipe());
        }
        type('T');
        type('0' + random.nextInt(4));
        type('1' + (random.nextBoolean() ? random.nextInt(3) : random.nextInt(9)));
        type('1' + random.nextInt(2));
        int children = random.nextInt(4) == 0 ? random.nextInt(6) : 2 + random.nextInt(4);
        for (int child = 0; child < children; child++) {
            type('C');
            type('0' + random.nextInt(10));
            type('1' + (random.nextBoolean() ? random.nextInt(3) : random.nextInt(9)));
            type('0' + random.nextInt(4));
        }
        if (random.nextInt(8) == 0) {
            type(some(0, 255));
        }
        answer("fault()", x.fault(), model.fault());
        answer("garden()", x.garden(), model.garden());
    }

    private void act(int which) {
        int child = someChild();
        int other = someChild();
        switch (which) {
            case 0 -> answer("give", x.give(child, other), model.give(child, other));
            case 1 -> answer("push", x.push(child), model.push(child));
            case 2 -> answer("call", x.call(child), model.call(child));
            case 3 -> {
                int rule = some(0, 3);
                int length = some(1, 9);
                answer("rule", x.rule(rule, length), model.rule(rule, length));
            }
            case 4 -> answer("put", x.put(), model.put());
            case 5, 6 -> answer("undo", x.undo(), model.undo());
            case 7 -> giveAsItCanBe();
            default -> answer("minute", x.minute(), model.minute());
        }
    }

    private void giveAsItCanBe() {
        int child = Integer.numberOfTrailingZeros(model.about(4));
        int other = someChild();
        answer("give", x.give(child, other), model.give(child, other));
    }

    private void ask(int which) {
        int child = someChild();
        int other = someChild();
        boolean upper = random.nextBoolean();
        int rule = some(0, 3);
        int length = some(1, 9);
        int what = some(0, 3);
        int n = some(1, 30);
        int far = some(0, 60);
        switch (which) {
            case 0 -> answer("ahead", x.ahead(far, what), model.ahead(far, what));
            case 1 -> answer("by", x.by(rule, length, far, what), model.by(rule, length, far, what));
            case 2 -> answer("bestLength", x.bestLength(rule, n), model.bestLength(rule, n));
            case 3 -> answer("bestRule", x.bestRule(n), model.bestRule(n));
            case 4 -> answer("first", x.first(child), model.first(child));
            case 5 -> answer("second", x.second(n), model.second(n));
            case 6, 7 -> judge();
            case 8 -> {
                if (random.nextInt(4) == 0) {
                    answer("share", x.share(child, upper), model.share(child, upper));
                }
            }
            case 9 -> {
                int minutes = some(1, 20);
                answer("see", x.see(child, minutes), model.see(child, minutes));
            }
            case 10 -> {
                answer("may", x.may(), model.may());
                if (random.nextInt(4) == 0) {
                    answer("unsee", x.unsee(), model.unsee());
                }
            }
            case 11 -> {
                int one = some(0, 1);
                answer("rests", x.rests(child, other, one), model.rests(child, other, one));
            }
            case 12 -> {
                int minutes = some(1, 6);
                int tenths = some(0, 10);
                answer("chance", x.chance(child, minutes, tenths, upper), model.chance(child, minutes, tenths, upper));
            }
            case 13 -> {
                long v = random.nextLong();
                answer("seed", x.seed(v), model.seed(v));
            }
            case 14 -> answer("days", x.days(n), model.days(n));
            case 15 -> {
                int slot = some(0, 1);
                answer("keep", x.keep(slot), model.keep(slot));
            }
            case 16 -> {
                int slot = some(0, 1);
                answer("again", x.again(slot), model.again(slot));
            }
            default -> tellOne();
        }
    }

    private void judge() {
        int n = some(1, 4);
        int row = 0;
        for (int place = 0; place < Math.min(4, n); place++) {
            int figure = random.nextInt(20) == 0 ? random.nextInt(10) : random.nextInt(4);
            int which = figure == 0 && random.nextInt(10) != 0 ? 0 : random.nextInt(random.nextInt(10) == 0 ? 10 : 5);
            row = 100 * row + 10 * figure + which;
        }
        if (random.nextInt(20) == 0) {
            row = some(-1, 100);
        }
        answer("judge(" + n + ", " + row + ")", x.judge(n, row), model.judge(n, row));
    }

    private void tellOne() {
        int what = some(0, 12);
        answer("about(" + what + ")", x.about(what), model.about(what));
        int child = someChild();
        int of = some(0, 8);
        answer("child(" + child + ", " + of + ")", x.child(child, of), model.child(child, of));
    }

    /** What was asked or refused must have changed nothing. */
    private void whole() {
        for (int what = 0; what <= 12; what++) {
            answer("about(" + what + ")", x.about(what), model.about(what));
        }
        for (int child = 0; child < model.about(0); child++) {
            for (int what = 0; what <= 8; what++) {
                answer("child(" + child + ", " + what + ")", x.child(child, what), model.child(child, what));
            }
        }
    }
}
