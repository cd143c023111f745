import java.util.function.ToLongFunction;

/** Promises 8 to 14 at their edges, sentence by sentence. */
final class ActsEdges {
    private static final int NONE = OneTricycle.NONE, LATE = OneTricycle.LATE;

    private ActsEdges() {
    }

    static void run() {
        whoRides();
        leastFirst();
        offWithoutWish();
        offIfSomebodyAsks();
        offByMoreMight();
        howls();
        giversGive();
        turnsEnd();
        getsOn();
        gotOn();
        riders();
        starersWish();
        starers();
        theMinute();
        given();
        pushed();
        called();
        ruled();
        rules();
        put();
        things();
        actsAreARow();
        mostActs();
        eachActIsUndone();
        undo();
    }

    /** A new garden, and a minute for each of what is due. */
    private static OneTricycle play(String text, int... due) {
        OneTricycle x = Check.garden(text);
        Check.minutes(x, text, due);
        return x;
    }

    /** Who RIDES for so many minutes, and who RIDES then. */
    private static OneTricycle playLong(String text, int bits, int minutes, int then) {
        OneTricycle x = Check.garden(text);
        for (int k = 1; k <= minutes; k++) {
            Check.due(text + ": minute " + k, x.minute(), bits);
        }
        Check.due(text + ": minute " + (minutes + 1), x.minute(), then);
        return x;
    }

    private static void whoRides() {
        Sentence.of(8, "A MINUTE: who RIDES then, as bits.");
        play("T312C990C990C990C990C990", 0b00011, 0b01100, 0b10001, 0b00110, 0b11000);
        play("T011", 0, 0);
        OneTricycle x = new OneTricycle();
        Check.due("nobody is there", x.minute(), 0);
    }

    private static void leastFirst() {
        Sentence.of(8, "A MINUTE, in this order: (a) each that RIDES, the least first (one behind the other; who got off may ASK)");
        OneTricycle x = play("T012C993C950C910", 3, 3);
        Check.child(x, "the GIVER got off", 0, 4, 1);
        Check.child(x, "and did not howl", 0, 8, 0);
        Check.child(x, "the one behind it got off, as the GIVER ASKED then", 1, 8, 1);
        Check.about(x, "the stronger one got on first", 8, 1);
        x = play("T012C950C993C910", 3, 3);
        Check.child(x, "the one ahead of the GIVER rides on", 0, 4, 2);
        Check.child(x, "and did not howl", 0, 8, 0);
        Check.child(x, "the GIVER got off", 1, 4, 1);
    }

    private static void offWithoutWish() {
        Sentence.of(8, "gets off, if its WISH is 0");
        for (int rule = 0; rule <= 3; rule++) {
            OneTricycle x = play("T" + rule + "91C510", 1, 1, 1, 1);
            Check.child(x, "four minutes on", 0, 0, 1);
            Check.due("with a WISH of 1 it rides on", x.minute(), 1);
            Check.child(x, "five minutes on", 0, 0, 0);
            Check.about(x, "it still RIDES", 4, 1);
            Check.due("with a WISH of 0 it gets off", x.minute(), 0);
        }
    }

    private static void offIfSomebodyAsks() {
        Sentence.of(8, "or somebody ASKS and:");
        for (int rule = 1; rule <= 3; rule++) {
            play("T" + rule + "11C910C310", 1, 1, 2);
        }
        play("T011C910C390", 1, 1, 2);
        playLong("T111C910C992", 1, 9, 0);
        playLong("T211C910C992", 1, 9, 0);
        playLong("T011C910C992", 1, 9, 0);
        play("T311C910C992", 1, 2);
        OneTricycle x = play("T011C913C310", 1, 1);
        Check.child(x, "nobody ASKED", 0, 4, 2);
        x.minute();
        Check.child(x, "off as 1 ASKED, and on again", 0, 4, 1);
    }

    private static void offByMoreMight() {
        Sentence.of(8, "by NONE, NEXT has more MIGHT than it");
        playLong("T011C950C450", 1, 9, 2);
        playLong("T011C950C431", 1, 9, 2);
        playLong("T011C931C450", 1, 9, 2);
        play("T011C950C460", 1, 2);
        play("T011C950C441", 1, 2);
        play("T011C931C460", 1, 2);
        play("T011C970C461", 1, 2);
        playLong("T011C970C451", 1, 9, 2);
    }

    private static void howls() {
        Sentence.of(8, "(then it HOWLS, once more, unless its WISH is 0)");
        OneTricycle x = playLong("T011C510C090", 1, 5, 2);
        Check.child(x, "pushed off with a WISH of 0", 0, 8, 0);
        x = playLong("T011C610C090", 1, 5, 2);
        Check.child(x, "pushed off with a WISH of 1", 0, 8, 1);
        x = play("T011C950C460", 1, 2);
        Check.child(x, "pushed off", 0, 8, 1);
        Check.minutes(x, "on", 2, 2, 2, 2, 1, 1, 1, 1, 1, 2);
        Check.child(x, "pushed off once more", 0, 8, 2);
        Check.child(x, "without a WISH it got off by itself", 1, 8, 0);
        x = play("T011C513C090", 1, 1, 1, 1, 1, 2);
        Check.child(x, "a GIVER without a WISH", 0, 8, 0);
        x = play("T011C913C420", 1, 2);
        Check.child(x, "a GIVER pushed off when it would have given", 0, 8, 1);
    }

    private static void giversGive() {
        Sentence.of(8, "or it is a GIVER that rode LENGTH minutes or more");
        Check.child(play("T031C793C910", 1, 1, 1, 2), "it gave", 0, 8, 0);
        for (int kind = 0; kind <= 1; kind++) {
            playLong("T031C79" + kind + "C910", 1, 7, 2);
        }
        play("T011C593C910", 1, 2);
        playLong("T081C993C910", 1, 8, 2);
        playLong("T091C993C910", 1, 9, 2);
        for (int length = 1; length <= 3; length++) {
            OneTricycle x = play("T0" + length + "1C993C210", 1, 1, 1);
            Check.child(x, "nobody ASKED", 0, 4, 3);
            Check.due("the stronger one gets on again", x.minute(), 1);
            Check.child(x, "off behind 3 minutes of " + length + ", and on", 0, 4, 1);
        }
        OneTricycle x = play("T041C993C210", 1, 1, 1, 1);
        Check.child(x, "3 minutes of 4: it rides on", 0, 4, 4);
        x.minute();
        Check.child(x, "4 minutes of 4", 0, 4, 1);
        x = Check.garden("T011C972C910");
        Check.due("the other one RIDES", x.minute(), 2);
        Check.due("give", x.give(1, 0), 1);
        Check.minutes(x, "a SHY one does not give", 1, 1, 1);
        Check.child(x, "it rides on", 0, 4, 3);
    }

    private static void turnsEnd() {
        Sentence.of(8, "by other RULES, it rode LENGTH minutes or more.");
        for (int rule = 1; rule <= 3; rule++) {
            for (int length = 1; length <= 9; length++) {
                OneTricycle x = playLong("T" + rule + length + "1C910C990", 1, length, 2);
                Check.child(x, "a turn's end is no howl", 0, 8, 0);
            }
            play("T" + rule + "31C993C990", 1, 1, 1, 2);
            play("T" + rule + "11C910C210", 1, 1, 1, 2);
            play("T" + rule + "21C910C210", 1, 1, 1, 2);
            play("T" + rule + "31C910C210", 1, 1, 1, 2);
            play("T" + rule + "41C910C210", 1, 1, 1, 1, 2);
        }
    }

    private static void getsOn() {
        Sentence.of(8, "(b) while THINGS are free and somebody ASKS, NEXT gets on:");
        for (int rule = 0; rule <= 3; rule++) {
            play("T" + rule + "11C990C990C990", 1);
            play("T" + rule + "12C990C990C990", 3);
            play("T" + rule + "12C490C990C590", 6);
            play("T" + rule + "12C510C410", 1);
            play("T" + rule + "12C410C410", 0);
            play("T" + rule + "92C990C490", 1, 3);
            play("T" + rule + "92C990C390", 1, 1, 3);
        }
        play("T012C910C920C930", 6);
    }

    private static void gotOn() {
        Sentence.of(8, "it RIDES, rode 0 minutes, was LAST, has not STARED since it rode.");
        OneTricycle x = play("T191C990C990", 1, 1);
        Check.about(x, "0 was LAST", 8, 0);
        Check.child(x, "it STARED", 1, 7, 2);
        Check.due("push", x.push(0), 1);
        Check.due("the other one gets on", x.minute(), 2);
        Check.about(x, "it was LAST", 8, 1);
        Check.child(x, "not STARED since it rode", 1, 7, 0);
        Check.child(x, "STARED in all", 1, 6, 2);
        Check.child(x, "rode 0 minutes, and 1 more", 1, 4, 1);
        Check.minutes(x, "on", 2, 2);
        Check.due("push", x.push(1), 1);
        Check.due("0 has RIDDEN least", x.minute(), 1);
        Check.child(x, "rode 0 minutes, not 2, and 1 more", 0, 4, 1);
    }

    private static void riders() {
        Sentence.of(8, "(c) each that RIDES has RIDDEN, and rode, 1 more, and its WISH is 1 less (0 at least)");
        OneTricycle x = Check.garden("T092C920C510");
        for (int minute = 1; minute <= 5; minute++) {
            Check.due("two RIDE", x.minute(), 3);
            for (int child = 0; child < 2; child++) {
                Check.child(x, "minute " + minute, child, 5, minute);
                Check.child(x, "minute " + minute, child, 4, minute);
                Check.child(x, "minute " + minute, child, 0, (child == 0 ? 9 : 5) - minute);
                Check.child(x, "who RIDES does not stare", child, 6, 0);
            }
        }
        Check.due("one without a WISH gets off", x.minute(), 1);
        Check.child(x, "off", 1, 4, 0);
        Check.child(x, "RIDDEN", 1, 5, 5);
        x = play("T011C510", 1, 1, 1, 1, 1, 0, 0);
        Check.child(x, "0 at least", 0, 0, 0);
        x = play("T011C910C110", 1);
        Check.due("call", x.call(1), 2);
        Check.due("given to one without a WISH", x.give(0, 1), 1);
        Check.child(x, "0 at least", 1, 0, 0);
    }

    private static void starersWish() {
        Sentence.of(8, "each that does not, if somebody RIDES: its WISH is 1 more (9 at most)");
        OneTricycle x = play("T091C910C710C010C912", 1);
        int[][] due = {{8, 8, 1, 9}, {7, 9, 2, 9}, {6, 9, 3, 9}};
        for (int minute = 0; minute < 3; minute++) {
            for (int child = 0; child < 4; child++) {
                Check.child(x, "minute " + (minute + 1), child, 0, due[minute][child]);
            }
            x.minute();
        }
        x = play("T011C410C010", 0, 0);
        Check.child(x, "nobody RIDES", 0, 0, 4);
        Check.child(x, "nobody RIDES", 1, 0, 0);
        x = play("T011C510C012", 1, 1, 1, 1, 1);
        Check.child(x, "somebody RODE so far", 1, 0, 5);
        Check.child(x, "somebody RODE so far", 1, 6, 1);
        Check.due("the last one gets off", x.minute(), 0);
        Check.child(x, "nobody RIDES any more", 1, 0, 5);
        Check.child(x, "nobody RIDES any more", 1, 6, 1);
    }

    private static void starers() {
        Sentence.of(8, "and if it WANTS then, it has STARED 1 more (in all; and since it rode).");
        OneTricycle x = play("T091C910C310C410C510C012", 1);
        int[][] due = {{0, 0, 1, 1, 0}, {0, 1, 2, 2, 0}, {0, 2, 3, 3, 0}, {0, 3, 4, 4, 0}, {0, 4, 5, 5, 1}};
        for (int minute = 0; minute < 5; minute++) {
            for (int child = 0; child < 5; child++) {
                Check.child(x, "minute " + (minute + 1), child, 6, due[minute][child]);
                Check.child(x, "minute " + (minute + 1), child, 7, due[minute][child]);
            }
            x.minute();
        }
        x = play("T191C990C990", 1, 1);
        Check.due("give", x.give(0, 1), 2);
        Check.due("give back", x.give(1, 0), 0);
        Check.due("rides on", x.minute(), 1);
        Check.child(x, "in all", 1, 6, 3);
        Check.child(x, "since it rode", 1, 7, 1);
    }

    private static void theMinute() {
        Sentence.of(8, "THE MINUTE is one more.");
        OneTricycle x = new OneTricycle();
        for (int minute = 1; minute <= 200; minute++) {
            x.minute();
            Check.about(x, "nobody is there", 9, minute);
        }
        x = play("T011C910", 1);
        Check.about(x, "somebody RIDES", 9, 1);
    }

    private static void given() {
        Sentence.of(9, "GIVEN: one that RIDES gets off, and another one that does not gets on (it is LAST).");
        OneTricycle x = play("T191C990C990C012", 1, 1);
        Check.due("give", x.give(0, 2), 2);
        Check.about(x, "who RIDES", 4, 4);
        Check.about(x, "LAST", 8, 2);
        Check.about(x, "no MINUTE", 9, 2);
        int[][] due = {{7, 0, 2, 0, 0, 0}, {9, 0, 0, 2, 2, 0}, {2, 0, 0, 0, 0, 0}};
        int[] asked = {0, 4, 5, 6, 7, 8};
        for (int child = 0; child < 3; child++) {
            for (int k = 0; k < asked.length; k++) {
                Check.child(x, "given", child, asked[k], due[child][k]);
            }
        }
        x = play("T192C990C990C990", 3);
        Check.due("the lesser one of two gives", x.give(0, 2), 1);
        Check.about(x, "who RIDES", 4, 0b110);
        Check.due("to the one that gave", x.give(1, 0), 1);
        Check.about(x, "who RIDES", 4, 0b101);
        Check.about(x, "LAST", 8, 0);
        Sentence.of(9, "GIVEN: what it rode.");
        x = play("T191C990C990", 1, 1, 1);
        Check.due("it rode 3", x.give(0, 1), 3);
        Check.due("it rode nothing", x.give(1, 0), 0);
        Check.due("on", x.minute(), 1);
        Check.due("it rode 1 this time, and has RIDDEN 4", x.give(0, 1), 1);
    }

    private static void pushed() {
        Sentence.of(10, "PUSHED: one that RIDES gets off, and HOWLS once more.");
        OneTricycle x = play("T012C990C990", 3);
        Check.due("push", x.push(1), 1);
        Check.about(x, "who RIDES", 4, 1);
        Check.about(x, "who was LAST stays", 8, 1);
        Check.about(x, "no MINUTE", 9, 1);
        int[] due = {8, 9, 0, 9, 0, 1, 0, 0, 1};
        for (int what = 0; what <= 8; what++) {
            Check.child(x, "pushed", 1, what, due[what]);
        }
        Check.child(x, "the other one rides on", 0, 4, 1);
        Check.child(x, "the other one does not howl", 0, 8, 0);
        Sentence.of(10, "PUSHED: how often it HOWLED.");
        for (int often = 2; often <= 4; often++) {
            Check.due("it gets on again", x.minute(), 3);
            Check.due("push", x.push(1), often);
        }
        Check.due("push of the other one", x.push(0), 1);
        x = playLong("T011C510C090", 1, 5, 2);
        Check.due("given to one with a WISH of 1", x.give(1, 0), 1);
        Check.due("pushed, it HOWLS whatever its WISH is", x.push(0), 1);
        x = play("T011C910C010", 1);
        Check.due("call", x.call(1), 1);
        Check.due("given to one without a WISH", x.give(0, 1), 1);
        Check.due("pushed, it HOWLS whatever its WISH is", x.push(1), 1);
    }

    private static void called() {
        Sentence.of(11, "CALLED: one that does not RIDE has no WISH any more.");
        OneTricycle x = play("T191C990C990C810", 1, 1);
        Check.due("call", x.call(1), 9);
        Check.child(x, "called", 1, 0, 0);
        Check.child(x, "STARED stays", 1, 6, 2);
        Check.child(x, "STARED since stays", 1, 7, 2);
        Check.child(x, "others stay", 0, 0, 7);
        Check.child(x, "others stay", 2, 0, 9);
        Check.about(x, "it does not WANT", 5, 0b100);
        Check.about(x, "no MINUTE", 9, 2);
        Sentence.of(11, "CALLED: the WISH it had.");
        for (int wish = 1; wish <= 9; wish++) {
            x = Check.garden("T011C" + wish + "10");
            Check.due("call", x.call(0), wish);
            Check.due("call again", x.call(0), LATE);
        }
    }

    private static void ruled() {
        Sentence.of(12, "RULED: another RULE, another LENGTH.");
        for (int rule = 0; rule <= 3; rule++) {
            for (int length = 1; length <= 9; length++) {
                OneTricycle x = Check.garden("T251C910");
                Check.due("rule", x.rule(rule, length), rule == 2 && length == 5 ? LATE : 2);
                Check.about(x, "ruled", 1, rule);
                Check.about(x, "ruled", 2, length);
            }
        }
        OneTricycle x = play("T191C990C990", 1, 1, 1);
        Check.due("turns of 4", x.rule(1, 4), 1);
        Check.due("it rode 3 so far", x.minute(), 1);
        Check.due("turns of 5", x.rule(1, 5), 1);
        Check.due("it rode 4 so far", x.minute(), 1);
        Check.due("turns of 5, another RULE", x.rule(2, 5), 1);
        Check.due("it rode 5", x.minute(), 2);
        Sentence.of(12, "RULED: the RULE it was.");
        x = Check.garden("T311");
        Check.due("rule(0, 1)", x.rule(0, 1), 3);
        Check.due("rule(1, 1)", x.rule(1, 1), 0);
        Check.due("rule(2, 1)", x.rule(2, 1), 1);
        Check.due("rule(2, 9)", x.rule(2, 9), 2);
        Check.due("rule(3, 9)", x.rule(3, 9), 2);
    }

    private static void rules() {
        Sentence.of(12, "RULES: 0 NONE, 1 SAND, 2 LINE, 3 LIST.");
        // 1 is the strongest, 4 has never RIDDEN, 0 has STARED most since it rode, 3 is behind LAST
        OneTricycle x = play("T191C910C990C910C910C110", 1);
        Check.due("give", x.give(0, 1), 1);
        Check.minutes(x, "1 RIDES", 2);
        Check.due("give", x.give(1, 3), 1);
        Check.minutes(x, "3 RIDES", 8);
        Check.due("give", x.give(3, 2), 1);
        Check.minutes(x, "2 RIDES", 4);
        Check.due("push", x.push(2), 1);
        Check.about(x, "SAND", 7, 4);
        Check.due("NONE", x.rule(0, 9), 1);
        Check.about(x, "NONE", 7, 1);
        Check.due("LINE", x.rule(2, 9), 0);
        Check.about(x, "LINE", 7, 0);
        Check.due("LIST", x.rule(3, 9), 2);
        Check.about(x, "LIST", 7, 3);
    }

    private static void put() {
        Sentence.of(13, "PUT: there are 2 THINGS, or 1 again (the greater one of two that RIDE gets off then).");
        OneTricycle x = play("T012C910C490C990", 0b101);
        Check.due("put", x.put(), 1);
        Check.about(x, "the greater one got off, strong as it is", 4, 1);
        Check.child(x, "it rode 1, off", 2, 4, 0);
        Check.child(x, "its WISH stays", 2, 0, 8);
        Check.child(x, "no howl", 2, 8, 0);
        Check.child(x, "the lesser one rides on", 0, 4, 1);
        Check.about(x, "who was LAST stays", 8, 0);
        Check.due("put", x.put(), 2);
        Check.about(x, "nobody gets on before a MINUTE", 4, 1);
        Check.about(x, "no MINUTE", 9, 1);
        x = play("T012C490C990", 2);
        Check.due("put", x.put(), 1);
        Check.about(x, "one that RIDES alone rides on", 4, 2);
        Check.child(x, "it rides on", 1, 4, 1);
        x = play("T012C490C410C410C990C990", 0b11000);
        Check.due("put", x.put(), 1);
        Check.about(x, "3 and 4 RODE", 4, 0b01000);
        Sentence.of(13, "PUT: how many THINGS there are.");
        Check.due("put", x.put(), 2);
        Check.due("put", x.put(), 1);
        Check.due("nobody is there", new OneTricycle().put(), 2);
    }

    private static void things() {
        Sentence.of(13, "THINGS are 1 or 2.");
        OneTricycle x = new OneTricycle();
        for (int k = 0; k < 20; k++) {
            Check.due("put", x.put(), k % 2 == 0 ? 2 : 1);
            Check.about(x, "THINGS", 3, k % 2 == 0 ? 2 : 1);
        }
        Check.about(Check.garden("T012"), "T012", 3, 2);
        Check.about(Check.garden("T011"), "T011", 3, 1);
    }

    /** 0 and 1 RIDE, 2 does not, and one ACT was done. */
    private static OneTricycle twoRide() {
        return play("T192C990C990C990", 3);
    }

    private static void oneMoreAct(String call, ToLongFunction<OneTricycle> act) {
        OneTricycle x = twoRide();
        Check.holds(call + " is done", act.applyAsLong(x) >= 0);
        Check.about(x, call + " is an ACT", 10, 2);
    }

    private static void noAct(String call, ToLongFunction<OneTricycle> asked) {
        OneTricycle x = twoRide();
        asked.applyAsLong(x);
        Check.about(x, call + " is no ACT", 10, 1);
    }

    private static void actsAreARow() {
        Sentence.of(14, "ACTS (MINUTES, GIVEN, PUSHED, CALLED, RULED, PUT) are a row");
        oneMoreAct("minute", x -> x.minute());
        oneMoreAct("give", x -> x.give(0, 2));
        oneMoreAct("push", x -> x.push(0));
        oneMoreAct("call", x -> x.call(2));
        oneMoreAct("rule", x -> x.rule(0, 1));
        oneMoreAct("put", x -> x.put());
        noAct("write", x -> x.write(0));
        noAct("wipe", x -> x.wipe());
        noAct("see", x -> x.see(0, 1));
        noAct("unsee", x -> x.unsee());
        noAct("seed", x -> x.seed(1));
        noAct("days", x -> x.days(3));
        noAct("keep", x -> x.keep(0));
        noAct("first", x -> x.first(2));
        noAct("judge", x -> x.judge(4, 0));
        noAct("push refused", x -> x.push(2));
    }

    private static void mostActs() {
        Sentence.of(14, "(14 at most; when it is full, the first one is forgotten)");
        for (int acts = 1; acts <= 31; acts++) {
            OneTricycle x = Check.garden("T121C990C990C910");
            for (int k = 1; k <= acts; k++) {
                x.minute();
                Check.about(x, "ACTS", 10, Math.min(14, k));
            }
            for (int left = Math.min(14, acts) - 1; left >= 0; left--) {
                Check.due("undo", x.undo(), left);
            }
            Check.due("no more to undo", x.undo(), LATE);
            int forgotten = Math.max(0, acts - 14);
            Check.about(x, "so many MINUTES are forgotten", 9, forgotten);
            OneTricycle twin = Check.garden("T121C990C990C910");
            for (int k = 0; k < forgotten; k++) {
                twin.minute();
            }
            for (int child = 0; child < 3; child++) {
                Check.child(x, "as it was then", child, 0, twin.child(child, 0));
                Check.child(x, "as it was then", child, 5, twin.child(child, 5));
            }
        }
    }

    private static void undone(String call, ToLongFunction<OneTricycle> act) {
        OneTricycle x = twoRide();
        x.minute();
        String before = Check.told(x);
        act.applyAsLong(x);
        Check.holds(call + " changes something", !Check.told(x).equals(before));
        Check.due(call + ": undo", x.undo(), 2);
        Check.same(call + " undone", Check.told(x), before);
    }

    private static void eachActIsUndone() {
        Sentence.of(14, "the last one can be undone.");
        undone("minute", x -> x.minute());
        undone("give", x -> x.give(0, 2));
        undone("push", x -> x.push(0));
        undone("call", x -> x.call(2));
        undone("rule", x -> x.rule(0, 1));
        undone("put, two RIDE", x -> x.put());
    }

    private static void undo() {
        Sentence.of(14, "The last ACT is undone: how many are left.");
        OneTricycle x = twoRide();
        x.put();
        x.push(0);
        x.minute();
        Check.due("the MINUTE", x.undo(), 3);
        Check.about(x, "nobody RIDES", 4, 0);
        Check.due("PUSHED", x.undo(), 2);
        Check.about(x, "0 RIDES", 4, 1);
        Check.due("PUT", x.undo(), 1);
        Check.about(x, "two RIDE", 4, 3);
        Check.due("the first MINUTE", x.undo(), 0);
        Check.about(x, "nobody RIDES", 4, 0);
        Check.about(x, "nobody was LAST", 8, NONE);
        Sentence.of(14, "LATE: there is none.");
        Check.due("undo", x.undo(), LATE);
        x.minute();
        Check.due("undo", x.undo(), 0);
        Check.due("undo", x.undo(), LATE);
        Check.due("new", new OneTricycle().undo(), LATE);
    }
}
