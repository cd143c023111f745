/** One tricycle and up to five children; ../shared/DOC.md says what each call answers. */
public final class OneTricycle {
    public static final int UNKNOWN = -1, BAD = -2, LATE = -3, FULL = -4, NONE = -9;

    private static final int MOST_CHILDREN = 5, MOST_LETTERS = 32, MOST_ACTS = 14, MOST_SEEN = 6;
    private static final int SLOTS = 2, RULES = 4, LONGEST_TURN = 9;
    private static final int BY_NONE = 0, BY_SAND = 1, BY_LINE = 2, BY_LIST = 3;
    private static final int BITER = 1, SHY = 2, GIVER = 3;
    private static final int WANTING_WISH = 5, GREATEST_WISH = 9;
    private static final int MOST_MINUTES_AHEAD = 60, MOST_MINUTES_WEIGHED = 30, MOST_MINUTES_SEEN = 20;
    private static final int MOST_WORM_MINUTES = 6, MOST_DAYS = 30, MOST_DOINGS = 4, SHARED_MINUTES = 6;
    private static final int HOLDS_ON = 0, GIVES = 1;
    private static final long SEED_TIMES = 6364136223846793005L, SEED_MORE = 1442695040888963407L;
    private static final int[] ORDERS = {1, 1, 2, 6, 24, 120};
    private static final int[] HUNDREDS = {1, 100, 10000, 1000000};

    private final Text text = new Text();
    private final Kids kids = new Kids();
    private final Play now = new Play(kids);
    /** What is only looked at is played here, so that nothing changes and nothing is made anew. */
    private final Play then = new Play(kids);
    private final Acts acts = new Acts(kids);
    private final Slots slots = new Slots(kids);
    private final Seen seen = new Seen();
    private final int[] worths = new int[1 << MOST_CHILDREN];
    private long seed = 0;

    public OneTricycle() {
    }

    // ---- the garden

    public int write(int letter) {
        if (letter < 0 || letter > 255) {
            return BAD;
        }
        if (text.length >= MOST_LETTERS) {
            return FULL;
        }
        text.append(letter);
        return text.length;
    }

    public int wipe() {
        int length = text.length;
        text.length = 0;
        return length;
    }

    public int fault() {
        return text.faultPlace();
    }

    public int garden() {
        if (text.faultPlace() != NONE) {
            return LATE;
        }
        kids.tellFrom(text);
        now.startFrom(text);
        acts.forgetAll();
        slots.forgetAll();
        return kids.count;
    }

    public int about(int what) {
        switch (what) {
            case 0: return kids.count;
            case 1: return now.rule;
            case 2: return now.length;
            case 3: return now.things;
            case 4: return now.riders;
            case 5: return now.wanting();
            case 6: return now.asking();
            case 7: return now.next();
            case 8: return now.last;
            case 9: return now.minutes;
            case 10: return acts.count;
            case 11: return seen.count;
            case 12: return text.length;
            default: return BAD;
        }
    }

    public int child(int child, int what) {
        if (!now.isThere(child)) {
            return UNKNOWN;
        }
        switch (what) {
            case 0: return now.wish[child];
            case 1: return kids.strength[child];
            case 2: return kids.kind[child];
            case 3: return kids.might(child);
            case 4: return now.rode[child];
            case 5: return now.ridden[child];
            case 6: return now.stared[child];
            case 7: return now.staredSince[child];
            case 8: return now.howled[child];
            default: return BAD;
        }
    }

    // ---- acts

    public int minute() {
        acts.remember(now);
        now.passMinute();
        return now.riders;
    }

    public int give(int child, int other) {
        if (!now.isThere(child) || !now.isThere(other)) {
            return UNKNOWN;
        }
        if (child == other) {
            return BAD;
        }
        if (!now.rides(child) || now.rides(other)) {
            return LATE;
        }
        acts.remember(now);
        int rode = now.rode[child];
        now.getOff(child);
        now.getOn(other);
        return rode;
    }

    public int push(int child) {
        if (!now.isThere(child)) {
            return UNKNOWN;
        }
        if (!now.canBePushed(child)) {
            return LATE;
        }
        acts.remember(now);
        now.pushOff(child);
        return now.howled[child];
    }

    public int call(int child) {
        if (!now.isThere(child)) {
            return UNKNOWN;
        }
        if (!now.canBeCalled(child)) {
            return LATE;
        }
        acts.remember(now);
        int wish = now.wish[child];
        now.callAway(child);
        return wish;
    }

    public int rule(int rule, int length) {
        if (!isRule(rule) || !isLength(length)) {
            return BAD;
        }
        if (rule == now.rule && length == now.length) {
            return LATE;
        }
        acts.remember(now);
        int old = now.rule;
        now.setRule(rule, length);
        return old;
    }

    public int put() {
        acts.remember(now);
        now.putOrTakeAway();
        return now.things;
    }

    public int undo() {
        if (acts.count == 0) {
            return LATE;
        }
        acts.takeBack(now);
        return acts.count;
    }

    // ---- minutes to come

    public int ahead(int n, int what) {
        if (n < 0 || n > MOST_MINUTES_AHEAD || !isOutlook(what)) {
            return BAD;
        }
        look(now.rule, now.length, now.things, n);
        return outlook(what);
    }

    public int by(int rule, int length, int n, int what) {
        if (!isRule(rule) || !isLength(length) || n < 0 || n > MOST_MINUTES_AHEAD || !isOutlook(what)) {
            return BAD;
        }
        look(rule, length, now.things, n);
        return outlook(what);
    }

    public int bestLength(int rule, int n) {
        if (!isRule(rule) || n < 1 || n > MOST_MINUTES_WEIGHED) {
            return BAD;
        }
        int best = 0;
        int leastGap = 0;
        for (int length = 1; length <= LONGEST_TURN; length++) {
            look(rule, length, now.things, n);
            int gap = then.gap();
            if (best == 0 || gap < leastGap) {
                best = length;
                leastGap = gap;
            }
        }
        return best;
    }

    public int bestRule(int n) {
        if (n < 1 || n > MOST_MINUTES_WEIGHED) {
            return BAD;
        }
        int best = NONE;
        int leastStared = 0;
        for (int rule = 0; rule < RULES; rule++) {
            look(rule, now.length, now.things, n);
            int stared = then.staredByAll();
            if (best == NONE || stared < leastStared) {
                best = rule;
                leastStared = stared;
            }
        }
        return best;
    }

    public int first(int child) {
        if (!now.isThere(child)) {
            return UNKNOWN;
        }
        then.copyFrom(now);
        for (int n = 0; n <= MOST_MINUTES_AHEAD; n++) {
            if (then.rides(child)) {
                return n;
            }
            then.passMinute();
        }
        return NONE;
    }

    public int second(int n) {
        if (n < 1 || n > MOST_MINUTES_WEIGHED) {
            return BAD;
        }
        look(now.rule, now.length, now.things, n);
        int staredAsItIs = then.staredByAll();
        look(now.rule, now.length, 2, n);
        return staredAsItIs - then.staredByAll();
    }

    public int judge(int n, int row) {
        if (n < 1 || n > MOST_DOINGS || row < 0 || row / HUNDREDS[n - 1] > 99) {
            return BAD;
        }
        then.copyFrom(now);
        for (int place = 0; place < n; place++) {
            int doing = row / HUNDREDS[n - 1 - place] % 100;
            if (!then.doIfItCanBe(doing / 10, doing % 10)) {
                return place;
            }
        }
        return NONE;
    }

    public int share(int child, boolean upper) {
        if (!now.isThere(child)) {
            return UNKNOWN;
        }
        int groups = 1 << kids.count;
        for (int group = 0; group < groups; group++) {
            worths[group] = riddenByGroup(group);
        }
        int sum = 0;
        for (int group = 0; group < groups; group++) {
            if (!has(group, child)) {
                int came = Integer.bitCount(group);
                int orders = ORDERS[came] * ORDERS[kids.count - 1 - came];
                sum += orders * (worths[group | 1 << child] - worths[group]);
            }
        }
        return fraction(sum, ORDERS[kids.count], upper);
    }

    // ---- seen

    public int see(int child, int n) {
        if (!now.isThere(child)) {
            return UNKNOWN;
        }
        if (n < 1 || n > MOST_MINUTES_SEEN) {
            return BAD;
        }
        if (seen.count >= MOST_SEEN) {
            return FULL;
        }
        seen.append(child, n);
        return seen.count;
    }

    public int unsee() {
        int count = seen.count;
        seen.count = 0;
        return count;
    }

    public int may() {
        int bits = 0;
        for (int rule = 0; rule < RULES; rule++) {
            if (allSeenIsSoBy(rule)) {
                bits |= 1 << rule;
            }
        }
        return bits;
    }

    // ---- rests, chances

    public int rests(int child, int other, int what) {
        if (!now.isThere(child) || !now.isThere(other)) {
            return UNKNOWN;
        }
        if (child == other || what < 0 || what > 1) {
            return BAD;
        }
        int count = 0;
        int firstPair = NONE;
        for (int own = HOLDS_ON; own <= GIVES; own++) {
            for (int others = HOLDS_ON; others <= GIVES; others++) {
                if (staysWith(child, own, other, others) && staysWith(other, others, child, own)) {
                    count++;
                    firstPair = firstPair == NONE ? 10 * own + others : firstPair;
                }
            }
        }
        return what == 0 ? count : firstPair;
    }

    public int chance(int child, int n, int x, boolean upper) {
        if (!now.isThere(child)) {
            return UNKNOWN;
        }
        if (n < 1 || n > MOST_WORM_MINUTES || x < 0 || x > 10) {
            return BAD;
        }
        int above = 0;
        int below = 1;
        for (int k = 0; k < n; k++) {
            below *= 10;
        }
        for (int worms = 0; worms < 1 << n; worms++) {
            int weight = weightOfWorms(worms, n, x);
            if (weight > 0 && ridesAfterWorms(child, worms, n)) {
                above += weight;
            }
        }
        return fraction(above, below, upper);
    }

    public long seed(long v) {
        long old = seed;
        seed = v;
        return old;
    }

    public int days(int m) {
        if (m < 1 || m > MOST_DAYS) {
            return BAD;
        }
        then.copyFrom(now);
        for (int k = 0; k < m; k++) {
            seed = seed * SEED_TIMES + SEED_MORE;
            int left = (int) ((seed >>> 33) % 10);
            if (left >= MOST_CHILDREN) {
                then.passMinute();
            } else if (then.canBeCalled(left)) {
                then.callAway(left);
            }
        }
        return then.staredByAll() - now.staredByAll();
    }

    // ---- slots

    public int keep(int slot) {
        if (!isSlot(slot)) {
            return UNKNOWN;
        }
        slots.plays[slot].copyFrom(now);
        slots.kept[slot] = true;
        return now.minutes;
    }

    public int again(int slot) {
        if (!isSlot(slot)) {
            return UNKNOWN;
        }
        if (!slots.kept[slot]) {
            return LATE;
        }
        now.copyFrom(slots.plays[slot]);
        acts.forgetAll();
        return now.minutes;
    }

    // ---- what the calls share

    private static boolean isRule(int rule) {
        return rule >= 0 && rule < RULES;
    }

    private static boolean isLength(int length) {
        return length >= 1 && length <= LONGEST_TURN;
    }

    private static boolean isOutlook(int what) {
        return what >= 0 && what <= 3;
    }

    private static boolean isSlot(int slot) {
        return slot >= 0 && slot < SLOTS;
    }

    private static boolean has(int bits, int child) {
        return (bits >> child & 1) == 1;
    }

    private void look(int rule, int length, int things, int n) {
        then.copyFrom(now);
        then.setRule(rule, length);
        then.things = things;
        for (int k = 0; k < n; k++) {
            then.passMinute();
        }
    }

    private int outlook(int what) {
        switch (what) {
            case 0: return then.riders;
            case 1: return then.staredByAll();
            case 2: return then.gap();
            default: return then.neverRidden();
        }
    }

    private int riddenByGroup(int group) {
        then.copyFrom(now);
        then.leaveOnly(group);
        int ridden = 0;
        for (int k = 0; k < SHARED_MINUTES; k++) {
            then.passMinute();
            ridden += Integer.bitCount(then.riders);
        }
        return ridden;
    }

    private boolean allSeenIsSoBy(int rule) {
        then.copyFrom(now);
        then.setRule(rule, now.length);
        for (int n = 1; n <= MOST_MINUTES_SEEN; n++) {
            then.passMinute();
            if ((seen.ridersIn(n) & then.there & ~then.riders) != 0) {
                return false;
            }
        }
        return true;
    }

    /** Has the child nothing to win by the other choice, if the other child keeps to its own? */
    private boolean staysWith(int child, int own, int other, int others) {
        return gain(child, own, other, others) >= gain(child, GIVES - own, other, others);
    }

    private int gain(int child, int own, int other, int others) {
        if (own == GIVES) {
            return others == GIVES ? 3 : 0;
        }
        if (others == GIVES) {
            return 3 + now.wish[child] / 2;
        }
        int more = kids.might(child) - kids.might(other);
        if (more == 0) {
            return -1;
        }
        return more > 0 ? now.wish[child] / 3 : -2;
    }

    /** In how many of 10 to the n cases worms come ahead of just these minutes (bits). */
    private static int weightOfWorms(int worms, int n, int x) {
        int weight = 1;
        for (int k = 0; k < n; k++) {
            weight *= has(worms, k) ? x : 10 - x;
        }
        return weight;
    }

    private boolean ridesAfterWorms(int child, int worms, int n) {
        then.copyFrom(now);
        for (int k = 0; k < n; k++) {
            if (has(worms, k)) {
                then.leaveRiding(0);
            }
            then.passMinute();
        }
        return then.rides(child);
    }

    /** One part of above / below in least terms; below is more than 0. */
    private static int fraction(int above, int below, boolean upper) {
        int divisor = Math.max(1, commonDivisor(Math.abs(above), below));
        return (upper ? above : below) / divisor;
    }

    private static int commonDivisor(int one, int other) {
        int a = one;
        int b = other;
        // Euclid's steps on two ints are fewer than 50
        for (int step = 0; step < 64 && b != 0; step++) {
            int left = a % b;
            a = b;
            b = left;
        }
        return a;
    }

    /** THE TEXT, and where it can be no GARDEN. */
    private static final class Text {
        private static final int HEAD = 4, PER_CHILD = 4;

        private final int[] letters = new int[MOST_LETTERS];
        private int length = 0;

        private void append(int letter) {
            if (length < MOST_LETTERS) {
                letters[length] = letter;
                length++;
            }
        }

        private int faultPlace() {
            for (int place = 0; place < length; place++) {
                if (!fits(place, letters[place])) {
                    return place;
                }
            }
            boolean isWhole = length >= HEAD && (length - HEAD) % PER_CHILD == 0;
            return isWhole ? NONE : length;
        }

        private static boolean fits(int place, int letter) {
            switch (place) {
                case 0: return letter == 'T';
                case 1: return isFigure(letter, 0, RULES - 1);
                case 2: return isFigure(letter, 1, LONGEST_TURN);
                case 3: return isFigure(letter, 1, 2);
                default: return place < HEAD + PER_CHILD * MOST_CHILDREN
                    && fitsChild((place - HEAD) % PER_CHILD, letter);
            }
        }

        private static boolean fitsChild(int place, int letter) {
            switch (place) {
                case 0: return letter == 'C';
                case 1: return isFigure(letter, 0, GREATEST_WISH);
                case 2: return isFigure(letter, 1, 9);
                default: return isFigure(letter, 0, GIVER);
            }
        }

        private static boolean isFigure(int letter, int least, int greatest) {
            return letter >= '0' + least && letter <= '0' + greatest;
        }

        private int figure(int place) {
            return place >= 0 && place < length ? letters[place] - '0' : 0;
        }

        private int figureOfChild(int child, int place) {
            return figure(HEAD + PER_CHILD * child + place);
        }

        private int countChildren() {
            return Math.max(0, Math.min(MOST_CHILDREN, (length - HEAD) / PER_CHILD));
        }
    }

    /** What stays of CHILDREN while they play. */
    private static final class Kids {
        private int count = 0;
        private final int[] strength = new int[MOST_CHILDREN];
        private final int[] kind = new int[MOST_CHILDREN];

        private void tellFrom(Text text) {
            count = text.countChildren();
            for (int child = 0; child < count; child++) {
                strength[child] = text.figureOfChild(child, 2);
                kind[child] = text.figureOfChild(child, 3);
            }
        }

        private int might(int child) {
            return strength[child] + (kind[child] == BITER ? 2 : 0);
        }
    }

    /** What changes while CHILDREN play: what ACTS undo and SLOTS keep. */
    private static final class Play {
        private final Kids kids;
        /** Bits: all CHILDREN, but where some are thought away. */
        private int there = 0;
        private int riders = 0;
        private int last = NONE;
        private int rule = BY_NONE;
        private int length = 1;
        private int things = 1;
        private int minutes = 0;
        private final int[] wish = new int[MOST_CHILDREN];
        private final int[] rode = new int[MOST_CHILDREN];
        private final int[] ridden = new int[MOST_CHILDREN];
        private final int[] stared = new int[MOST_CHILDREN];
        private final int[] staredSince = new int[MOST_CHILDREN];
        private final int[] howled = new int[MOST_CHILDREN];

        private Play(Kids kids) {
            this.kids = kids;
        }

        private void startFrom(Text text) {
            there = (1 << text.countChildren()) - 1;
            riders = 0;
            last = NONE;
            rule = text.figure(1);
            length = text.figure(2);
            things = text.figure(3);
            minutes = 0;
            for (int child = 0; child < MOST_CHILDREN; child++) {
                wish[child] = text.figureOfChild(child, 1);
                rode[child] = 0;
                ridden[child] = 0;
                stared[child] = 0;
                staredSince[child] = 0;
                howled[child] = 0;
            }
        }

        private void copyFrom(Play other) {
            there = other.there;
            riders = other.riders;
            last = other.last;
            rule = other.rule;
            length = other.length;
            things = other.things;
            minutes = other.minutes;
            for (int child = 0; child < MOST_CHILDREN; child++) {
                wish[child] = other.wish[child];
                rode[child] = other.rode[child];
                ridden[child] = other.ridden[child];
                stared[child] = other.stared[child];
                staredSince[child] = other.staredSince[child];
                howled[child] = other.howled[child];
            }
        }

        private boolean isThere(int child) {
            return child >= 0 && child < MOST_CHILDREN && has(there, child);
        }

        private boolean rides(int child) {
            return has(riders, child);
        }

        private int wanting() {
            int bits = 0;
            for (int child = 0; child < MOST_CHILDREN; child++) {
                if (wish[child] >= WANTING_WISH) {
                    bits |= 1 << child;
                }
            }
            return bits & there & ~riders;
        }

        private int asking() {
            int bits = wanting();
            for (int child = 0; child < MOST_CHILDREN; child++) {
                if (rule != BY_LIST && kids.kind[child] == SHY) {
                    bits &= ~(1 << child);
                }
            }
            return bits;
        }

        private int next() {
            int askers = asking();
            // the LIST is gone through from behind who was LAST, so there the first one stays
            int start = rule == BY_LIST && last != NONE ? last + 1 : 0;
            int best = NONE;
            for (int step = 0; step < MOST_CHILDREN; step++) {
                int child = (start + step) % MOST_CHILDREN;
                if (has(askers, child) && (best == NONE || comesAhead(child, best))) {
                    best = child;
                }
            }
            return best;
        }

        private boolean comesAhead(int child, int other) {
            switch (rule) {
                case BY_NONE: return kids.might(child) > kids.might(other);
                case BY_SAND: return ridden[child] < ridden[other];
                case BY_LINE: return staredSince[child] > staredSince[other];
                default: return false;
            }
        }

        private void passMinute() {
            for (int child = 0; child < MOST_CHILDREN; child++) {
                if (rides(child)) {
                    getOffIfDue(child);
                }
            }
            for (int free = things - Integer.bitCount(riders); free > 0; free--) {
                int next = next();
                if (next == NONE) {
                    break;
                }
                getOn(next);
            }
            rideAndStare();
            minutes++;
        }

        private void getOffIfDue(int child) {
            if (wish[child] == 0) {
                getOff(child);
                return;
            }
            int next = next();
            if (next == NONE) {
                return;
            }
            if (rule == BY_NONE && kids.might(next) > kids.might(child)) {
                pushOff(child);
            } else if (rode[child] >= length && (rule != BY_NONE || kids.kind[child] == GIVER)) {
                getOff(child);
            }
        }

        private void rideAndStare() {
            for (int child = 0; child < MOST_CHILDREN; child++) {
                if (rides(child)) {
                    ridden[child]++;
                    rode[child]++;
                    wish[child] = Math.max(0, wish[child] - 1);
                } else if (riders != 0 && has(there, child)) {
                    wish[child] = Math.min(GREATEST_WISH, wish[child] + 1);
                    if (wish[child] >= WANTING_WISH) {
                        stared[child]++;
                        staredSince[child]++;
                    }
                }
            }
        }

        private void getOn(int child) {
            riders |= 1 << child;
            rode[child] = 0;
            staredSince[child] = 0;
            last = child;
        }

        private void getOff(int child) {
            riders &= ~(1 << child);
            rode[child] = 0;
        }

        private boolean canBePushed(int child) {
            return isThere(child) && rides(child);
        }

        private void pushOff(int child) {
            getOff(child);
            howled[child]++;
        }

        private boolean canBeCalled(int child) {
            return isThere(child) && !rides(child) && wish[child] > 0;
        }

        private void callAway(int child) {
            wish[child] = 0;
        }

        private void setRule(int newRule, int newLength) {
            rule = newRule;
            length = newLength;
        }

        private void putOrTakeAway() {
            things = things == 1 ? 2 : 1;
            if (Integer.bitCount(riders) > things) {
                int leastRider = riders & -riders;
                leaveRiding(leastRider);
            }
        }

        private void leaveRiding(int stayers) {
            for (int child = 0; child < MOST_CHILDREN; child++) {
                if (rides(child) && !has(stayers, child)) {
                    getOff(child);
                }
            }
        }

        private void leaveOnly(int group) {
            there &= group;
            leaveRiding(group);
        }

        /** A doing told as two figures: false, and nothing done, if it can not be. */
        private boolean doIfItCanBe(int kind, int which) {
            if (kind == 0 && which == 0) {
                passMinute();
                return true;
            }
            if (kind == 1 && canBePushed(which)) {
                pushOff(which);
                return true;
            }
            if (kind == 2 && canBeCalled(which)) {
                callAway(which);
                return true;
            }
            if (kind == 3 && isRule(which) && which != rule) {
                setRule(which, length);
                return true;
            }
            return false;
        }

        private int staredByAll() {
            int sum = 0;
            for (int child = 0; child < MOST_CHILDREN; child++) {
                sum += has(there, child) ? stared[child] : 0;
            }
            return sum;
        }

        private int gap() {
            int most = NONE;
            int least = NONE;
            for (int child = 0; child < MOST_CHILDREN; child++) {
                if (has(there, child)) {
                    most = Math.max(most, ridden[child]);
                    least = least == NONE ? ridden[child] : Math.min(least, ridden[child]);
                }
            }
            return most - least;
        }

        private int neverRidden() {
            int bits = 0;
            for (int child = 0; child < MOST_CHILDREN; child++) {
                if (ridden[child] == 0) {
                    bits |= 1 << child;
                }
            }
            return bits & there;
        }
    }

    /** How all was ahead of each of the last ACTS, the oldest written over when the row is full. */
    private static final class Acts {
        private final Play[] before = new Play[MOST_ACTS];
        private int count = 0;
        private int end = 0;

        private Acts(Kids kids) {
            for (int place = 0; place < MOST_ACTS; place++) {
                before[place] = new Play(kids);
            }
        }

        private void remember(Play play) {
            before[end].copyFrom(play);
            end = (end + 1) % MOST_ACTS;
            count = Math.min(MOST_ACTS, count + 1);
        }

        private void takeBack(Play play) {
            end = (end + MOST_ACTS - 1) % MOST_ACTS;
            play.copyFrom(before[end]);
            count--;
        }

        private void forgetAll() {
            count = 0;
        }
    }

    /** What is kept to go on from. */
    private static final class Slots {
        private final Play[] plays = new Play[SLOTS];
        private final boolean[] kept = new boolean[SLOTS];

        private Slots(Kids kids) {
            for (int slot = 0; slot < SLOTS; slot++) {
                plays[slot] = new Play(kids);
            }
        }

        private void forgetAll() {
            for (int slot = 0; slot < SLOTS; slot++) {
                kept[slot] = false;
            }
        }
    }

    /** What is SEEN: which CHILD rides in how many MINUTES. */
    private static final class Seen {
        private final int[] child = new int[MOST_SEEN];
        private final int[] minutes = new int[MOST_SEEN];
        private int count = 0;

        private void append(int which, int n) {
            if (count < MOST_SEEN) {
                child[count] = which;
                minutes[count] = n;
                count++;
            }
        }

        private int ridersIn(int n) {
            int bits = 0;
            for (int place = 0; place < count; place++) {
                if (minutes[place] == n) {
                    bits |= 1 << child[place];
                }
            }
            return bits;
        }
    }
}
