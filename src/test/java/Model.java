import java.math.BigInteger;
import java.util.ArrayDeque;
import java.util.ArrayList;
import java.util.Comparator;
import java.util.Deque;
import java.util.List;
import java.util.Locale;
import java.util.Optional;
import java.util.regex.Matcher;
import java.util.regex.Pattern;
import java.util.stream.Stream;

/** The document once more, written as plainly as the Java library lets it be, to hold the class against. */
final class Model {
    private static final int UNKNOWN = -1, BAD = -2, LATE = -3, FULL = -4, NONE = -9;
    private static final Pattern GARDEN = Pattern.compile("T[0-3][1-9][12](C[0-9][1-9][0-3]){0,5}", Pattern.DOTALL);

    /** One child; the number it has is kept with it, so that a group can do without the others. */
    private static final class Kid {
        int number, wish, strength, kind, rode, ridden, stared, since, howled;
        boolean rides;

        Kid copy() {
            Kid kid = new Kid();
            kid.number = number;
            kid.wish = wish;
            kid.strength = strength;
            kid.kind = kind;
            kid.rode = rode;
            kid.ridden = ridden;
            kid.stared = stared;
            kid.since = since;
            kid.howled = howled;
            kid.rides = rides;
            return kid;
        }

        int might() {
            return kind == 1 ? strength + 2 : strength;
        }

        boolean wants() {
            return !rides && wish >= 5;
        }

        void off() {
            rides = false;
            rode = 0;
        }
    }

    private static final class State {
        List<Kid> kids = new ArrayList<>();
        int rule = 0, length = 1, things = 1, last = NONE, minute = 0;

        State copy() {
            State state = new State();
            for (Kid kid : kids) {
                state.kids.add(kid.copy());
            }
            state.rule = rule;
            state.length = length;
            state.things = things;
            state.last = last;
            state.minute = minute;
            return state;
        }

        Optional<Kid> kid(int number) {
            return kids.stream().filter(kid -> kid.number == number).findFirst();
        }

        boolean asks(Kid kid) {
            return kid.wants() && (kid.kind != 2 || rule == 3);
        }

        Optional<Kid> next() {
            Comparator<Kid> order = switch (rule) {
                case 0 -> Comparator.comparing(kid -> -kid.might());
                case 1 -> Comparator.comparing(kid -> kid.ridden);
                case 2 -> Comparator.comparing(kid -> -kid.since);
                default -> Comparator.comparing(kid -> last != NONE && kid.number <= last ? 1 : 0);
            };
            return kids.stream().filter(this::asks).min(order.thenComparing(kid -> kid.number));
        }

        void on(Kid kid) {
            kid.rides = true;
            kid.rode = 0;
            kid.since = 0;
            last = kid.number;
        }

        long riding() {
            return kids.stream().filter(kid -> kid.rides).count();
        }

        void pass() {
            for (Kid kid : kids) {
                if (kid.rides) {
                    considerGettingOff(kid);
                }
            }
            while (riding() < things && next().isPresent()) {
                on(next().get());
            }
            boolean somebodyRides = riding() > 0;
            for (Kid kid : kids) {
                if (kid.rides) {
                    kid.ridden += 1;
                    kid.rode += 1;
                    kid.wish = kid.wish == 0 ? 0 : kid.wish - 1;
                } else if (somebodyRides) {
                    kid.wish = kid.wish == 9 ? 9 : kid.wish + 1;
                    if (kid.wants()) {
                        kid.stared += 1;
                        kid.since += 1;
                    }
                }
            }
            minute += 1;
        }

        void considerGettingOff(Kid kid) {
            Optional<Kid> next = next();
            boolean overpowered = rule == 0 && next.isPresent() && next.get().might() > kid.might();
            boolean gives = rule == 0 && next.isPresent() && kid.kind == 3 && kid.rode >= length;
            boolean turnEnds = rule != 0 && next.isPresent() && kid.rode >= length;
            if (overpowered && kid.wish != 0) {
                kid.howled += 1;
            }
            if (kid.wish == 0 || overpowered || gives || turnEnds) {
                kid.off();
            }
        }

        State in(int n) {
            State state = copy();
            for (int k = 0; k < n; k++) {
                state.pass();
            }
            return state;
        }

        State by(int newRule, int newLength) {
            State state = copy();
            state.rule = newRule;
            state.length = newLength;
            return state;
        }

        int bits(java.util.function.Predicate<Kid> which) {
            return kids.stream().filter(which).mapToInt(kid -> 1 << kid.number).sum();
        }

        int stared() {
            return kids.stream().mapToInt(kid -> kid.stared).sum();
        }

        int gap() {
            return kids.stream().mapToInt(kid -> kid.ridden).max().orElse(0)
                - kids.stream().mapToInt(kid -> kid.ridden).min().orElse(0);
        }

        int outlook(int what) {
            return switch (what) {
                case 0 -> bits(kid -> kid.rides);
                case 1 -> stared();
                case 2 -> gap();
                default -> bits(kid -> kid.ridden == 0);
            };
        }

        boolean called(int number) {
            Optional<Kid> kid = kid(number).filter(one -> !one.rides && one.wish != 0);
            kid.ifPresent(one -> one.wish = 0);
            return kid.isPresent();
        }

        boolean pushed(int number) {
            Optional<Kid> kid = kid(number).filter(one -> one.rides);
            kid.ifPresent(one -> {
                one.off();
                one.howled += 1;
            });
            return kid.isPresent();
        }

        boolean does(char figure, int which) {
            switch (figure) {
                case '0':
                    pass();
                    return which == 0;
                case '1':
                    return pushed(which);
                case '2':
                    return called(which);
                case '3':
                    if (which > 3 || which == rule) {
                        return false;
                    }
                    rule = which;
                    return true;
                default:
                    return false;
            }
        }
    }

    private String text = "";
    private State now = new State();
    private final Deque<State> acts = new ArrayDeque<>();
    private final State[] slots = new State[2];
    private final List<int[]> seen = new ArrayList<>();
    private BigInteger seed = BigInteger.ZERO;

    int write(int letter) {
        if (letter < 0 || letter > 255) {
            return BAD;
        }
        if (text.length() == 32) {
            return FULL;
        }
        text += (char) letter;
        return text.length();
    }

    int wipe() {
        int length = text.length();
        text = "";
        return length;
    }

    int fault() {
        for (int end = 1; end <= text.length(); end++) {
            Matcher matcher = GARDEN.matcher(text.substring(0, end));
            if (!matcher.matches() && !matcher.hitEnd()) {
                return end - 1;
            }
        }
        return GARDEN.matcher(text).matches() ? NONE : text.length();
    }

    int garden() {
        if (fault() != NONE) {
            return LATE;
        }
        now = new State();
        now.rule = text.charAt(1) - '0';
        now.length = text.charAt(2) - '0';
        now.things = text.charAt(3) - '0';
        for (String told : text.substring(4).split("C")) {
            if (!told.isEmpty()) {
                Kid kid = new Kid();
                kid.number = now.kids.size();
                kid.wish = told.charAt(0) - '0';
                kid.strength = told.charAt(1) - '0';
                kid.kind = told.charAt(2) - '0';
                now.kids.add(kid);
            }
        }
        acts.clear();
        slots[0] = null;
        slots[1] = null;
        return now.kids.size();
    }

    int about(int what) {
        return switch (what) {
            case 0 -> now.kids.size();
            case 1 -> now.rule;
            case 2 -> now.length;
            case 3 -> now.things;
            case 4 -> now.bits(kid -> kid.rides);
            case 5 -> now.bits(Kid::wants);
            case 6 -> now.bits(now::asks);
            case 7 -> now.next().map(kid -> kid.number).orElse(NONE);
            case 8 -> now.last;
            case 9 -> now.minute;
            case 10 -> acts.size();
            case 11 -> seen.size();
            case 12 -> text.length();
            default -> BAD;
        };
    }

    private boolean isNoChild(int child) {
        return now.kid(child).isEmpty();
    }

    int child(int child, int what) {
        if (isNoChild(child)) {
            return UNKNOWN;
        }
        Kid kid = now.kids.get(child);
        return switch (what) {
            case 0 -> kid.wish;
            case 1 -> kid.strength;
            case 2 -> kid.kind;
            case 3 -> kid.might();
            case 4 -> kid.rode;
            case 5 -> kid.ridden;
            case 6 -> kid.stared;
            case 7 -> kid.since;
            case 8 -> kid.howled;
            default -> BAD;
        };
    }

    private void act() {
        acts.addLast(now.copy());
        if (acts.size() > 14) {
            acts.removeFirst();
        }
    }

    int minute() {
        act();
        now.pass();
        return about(4);
    }

    int give(int child, int other) {
        if (isNoChild(child) || isNoChild(other)) {
            return UNKNOWN;
        }
        if (child == other) {
            return BAD;
        }
        if (!now.kids.get(child).rides || now.kids.get(other).rides) {
            return LATE;
        }
        act();
        int rode = now.kids.get(child).rode;
        now.kids.get(child).off();
        now.on(now.kids.get(other));
        return rode;
    }

    int push(int child) {
        if (isNoChild(child)) {
            return UNKNOWN;
        }
        State before = now.copy();
        if (!now.pushed(child)) {
            return LATE;
        }
        actFrom(before);
        return now.kids.get(child).howled;
    }

    int call(int child) {
        if (isNoChild(child)) {
            return UNKNOWN;
        }
        State before = now.copy();
        if (!now.called(child)) {
            return LATE;
        }
        actFrom(before);
        return before.kids.get(child).wish;
    }

    private void actFrom(State before) {
        State after = now;
        now = before;
        act();
        now = after;
    }

    int rule(int rule, int length) {
        if (rule < 0 || rule > 3 || length < 1 || length > 9) {
            return BAD;
        }
        if (rule == now.rule && length == now.length) {
            return LATE;
        }
        act();
        int old = now.rule;
        now = now.by(rule, length);
        return old;
    }

    int put() {
        act();
        now.things = 3 - now.things;
        if (now.riding() > now.things) {
            now.kids.stream().filter(kid -> kid.rides).skip(1).forEach(Kid::off);
        }
        return now.things;
    }

    int undo() {
        if (acts.isEmpty()) {
            return LATE;
        }
        now = acts.removeLast();
        return acts.size();
    }

    int ahead(int n, int what) {
        return n < 0 || n > 60 || what < 0 || what > 3 ? BAD : now.in(n).outlook(what);
    }

    int by(int rule, int length, int n, int what) {
        if (rule < 0 || rule > 3 || length < 1 || length > 9) {
            return BAD;
        }
        return n < 0 || n > 60 || what < 0 || what > 3 ? BAD : now.by(rule, length).in(n).outlook(what);
    }

    int bestLength(int rule, int n) {
        if (rule < 0 || rule > 3 || n < 1 || n > 30) {
            return BAD;
        }
        return Stream.of(1, 2, 3, 4, 5, 6, 7, 8, 9)
            .min(Comparator.<Integer, Integer>comparing(length -> now.by(rule, length).in(n).gap())
                .thenComparing(length -> length)).get();
    }

    int bestRule(int n) {
        if (n < 1 || n > 30) {
            return BAD;
        }
        return Stream.of(0, 1, 2, 3)
            .min(Comparator.<Integer, Integer>comparing(rule -> now.by(rule, now.length).in(n).stared())
                .thenComparing(rule -> rule)).get();
    }

    int first(int child) {
        if (isNoChild(child)) {
            return UNKNOWN;
        }
        for (int n = 0; n <= 60; n++) {
            if (now.in(n).kids.get(child).rides) {
                return n;
            }
        }
        return NONE;
    }

    int second(int n) {
        if (n < 1 || n > 30) {
            return BAD;
        }
        State two = now.copy();
        two.things = 2;
        return now.in(n).stared() - two.in(n).stared();
    }

    int judge(int n, int row) {
        if (n < 1 || n > 4 || row < 0 || Integer.toString(row).length() > 2 * n) {
            return BAD;
        }
        String told = String.format(Locale.ROOT, "%0" + 2 * n + "d", row);
        State state = now.copy();
        for (int place = 0; place < n; place++) {
            if (!state.does(told.charAt(2 * place), told.charAt(2 * place + 1) - '0')) {
                return place;
            }
        }
        return NONE;
    }

    private int ridden(List<Integer> group) {
        State state = now.copy();
        state.kids.removeIf(kid -> !group.contains(kid.number));
        int before = state.kids.stream().mapToInt(kid -> kid.ridden).sum();
        return state.in(6).kids.stream().mapToInt(kid -> kid.ridden).sum() - before;
    }

    /** What the child brings, summed over all orders that begin with those who came. */
    private long brought(int child, List<Integer> came) {
        if (came.size() == now.kids.size()) {
            int place = came.indexOf(child);
            return ridden(came.subList(0, place + 1)) - ridden(came.subList(0, place));
        }
        long sum = 0;
        for (int one = 0; one < now.kids.size(); one++) {
            if (!came.contains(one)) {
                List<Integer> longer = new ArrayList<>(came);
                longer.add(one);
                sum += brought(child, longer);
            }
        }
        return sum;
    }

    private static int part(long above, long below, boolean upper) {
        BigInteger divisor = BigInteger.valueOf(above).gcd(BigInteger.valueOf(below));
        return BigInteger.valueOf(upper ? above : below).divide(divisor).intValueExact();
    }

    int share(int child, boolean upper) {
        if (isNoChild(child)) {
            return UNKNOWN;
        }
        long orders = 1;
        for (int k = 2; k <= now.kids.size(); k++) {
            orders *= k;
        }
        return part(brought(child, List.of()), orders, upper);
    }

    int see(int child, int n) {
        if (isNoChild(child)) {
            return UNKNOWN;
        }
        if (n < 1 || n > 20) {
            return BAD;
        }
        if (seen.size() == 6) {
            return FULL;
        }
        seen.add(new int[] {child, n});
        return seen.size();
    }

    int unsee() {
        int count = seen.size();
        seen.clear();
        return count;
    }

    int may() {
        int bits = 0;
        for (int rule = 0; rule < 4; rule++) {
            State state = now.by(rule, now.length);
            if (seen.stream().allMatch(one -> isNoChild(one[0]) || state.in(one[1]).kids.get(one[0]).rides)) {
                bits += 1 << rule;
            }
        }
        return bits;
    }

    int rests(int child, int other, int what) {
        if (isNoChild(child) || isNoChild(other)) {
            return UNKNOWN;
        }
        if (child == other || what < 0 || what > 1) {
            return BAD;
        }
        Kid one = now.kids.get(child);
        Kid two = now.kids.get(other);
        int fightOne = one.might() > two.might() ? one.wish / 3 : one.might() == two.might() ? -1 : -2;
        int fightTwo = two.might() > one.might() ? two.wish / 3 : one.might() == two.might() ? -1 : -2;
        int[][] hasOne = {{fightOne, 3 + one.wish / 2}, {0, 3}};
        int[][] hasTwo = {{fightTwo, 0}, {3 + two.wish / 2, 3}};
        List<Integer> pairs = new ArrayList<>();
        for (int pair : new int[] {0, 1, 10, 11}) {
            int a = pair / 10;
            int b = pair % 10;
            if (hasOne[1 - a][b] <= hasOne[a][b] && hasTwo[a][1 - b] <= hasTwo[a][b]) {
                pairs.add(pair);
            }
        }
        return what == 0 ? pairs.size() : pairs.isEmpty() ? NONE : pairs.get(0);
    }

    private static long cases(State state, int child, int n, int x) {
        if (n == 0) {
            return state.kids.get(child).rides ? 1 : 0;
        }
        State distracted = state.copy();
        distracted.kids.forEach(Kid::off);
        return x * cases(distracted.in(1), child, n - 1, x) + (10 - x) * cases(state.in(1), child, n - 1, x);
    }

    int chance(int child, int n, int x, boolean upper) {
        if (isNoChild(child)) {
            return UNKNOWN;
        }
        if (n < 1 || n > 6 || x < 0 || x > 10) {
            return BAD;
        }
        return part(cases(now, child, n, x), BigInteger.TEN.pow(n).longValueExact(), upper);
    }

    long seed(long v) {
        long old = seed.longValue();
        seed = BigInteger.valueOf(v);
        return old;
    }

    int days(int m) {
        if (m < 1 || m > 30) {
            return BAD;
        }
        State state = now.copy();
        BigInteger whole = BigInteger.ONE.shiftLeft(64);
        for (int k = 0; k < m; k++) {
            seed = seed.multiply(new BigInteger("6364136223846793005")).add(new BigInteger("1442695040888963407")).mod(whole);
            int left = seed.shiftRight(33).mod(BigInteger.TEN).intValueExact();
            if (left <= 4) {
                state.called(left);
            } else {
                state.pass();
            }
        }
        return state.stared() - now.stared();
    }

    int keep(int slot) {
        if (slot != 0 && slot != 1) {
            return UNKNOWN;
        }
        slots[slot] = now.copy();
        return now.minute;
    }

    int again(int slot) {
        if (slot != 0 && slot != 1) {
            return UNKNOWN;
        }
        if (slots[slot] == null) {
            return LATE;
        }
        now = slots[slot].copy();
        acts.clear();
        return now.minute;
    }
}
