/** Promises 1 to 7 at their edges, sentence by sentence. */
final class GardenEdges {
    private static final String FIVE = "T011C010C010C010C010C010";
    private static final int NONE = OneTricycle.NONE, BAD = OneTricycle.BAD, UNKNOWN = OneTricycle.UNKNOWN;

    private GardenEdges() {
    }

    static void run() {
        newObject();
        atFirst();
        bytes();
        textIsFull();
        wipe();
        headOfTheText();
        childrenOfTheText();
        mostChildren();
        faultIsTheFirst();
        lengthSetAside();
        notAtItsEnd();
        noFault();
        gardenIsTheText();
        numberedAsTold();
        madeAnew();
        about();
        wants();
        asks();
        nextByNone();
        nextBySand();
        nextByLine();
        nextByList();
        nextOfLikeOnes();
        nextIsNobody();
        nextIsOfNow();
        child();
        might();
    }

    private static void newObject() {
        Sentence.of(1, "Nobody, one thing.");
        OneTricycle x = new OneTricycle();
        Check.about(x, "new", 0, 0);
        Check.about(x, "new", 3, 1);
        Check.child(x, "new", 0, 0, UNKNOWN);
        Check.due("minute", x.minute(), 0);
    }

    private static void atFirst() {
        Sentence.of(1, "At first the RULE is 0, LENGTH 1, there is 1 THING, nobody.");
        OneTricycle x = new OneTricycle();
        int[] due = {0, 0, 1, 1, 0, 0, 0, NONE, NONE, 0, 0, 0, 0};
        for (int what = 0; what < due.length; what++) {
            Check.about(x, "new", what, due[what]);
        }
        Check.due("rule(0, 1), both are so", x.rule(0, 1), OneTricycle.LATE);
        Check.due("put", x.put(), 2);
        Check.due("garden of no TEXT", x.garden(), OneTricycle.LATE);
    }

    private static void bytes() {
        Sentence.of(2, "A byte (0 .. 255) comes behind THE TEXT: how long it is.");
        OneTricycle x = new OneTricycle();
        for (int letter = 0; letter <= 255; letter++) {
            if (letter % 32 == 0) {
                x.wipe();
            }
            Check.due("write(" + letter + ")", x.write(letter), letter % 32 + 1);
        }
        Check.about(x, "bytes 224 to 255", 12, 32);
        x.wipe();
        x.write('T' + 128);
        Check.due("a byte of 8 bits is none of 7", x.fault(), 0);
        x = new OneTricycle();
        x.write('T');
        x.write('3');
        x.write('9');
        Check.due("the fourth byte", x.write('2'), 4);
        Check.due("each one came behind the others", x.garden(), 0);
        Check.about(x, "T392", 1, 3);
        Check.about(x, "T392", 2, 9);
        Check.about(x, "T392", 3, 2);
    }

    private static void textIsFull() {
        Sentence.of(2, "BAD; FULL: there are 32.");
        OneTricycle x = new OneTricycle();
        for (int letter : new int[] {-1, 256, 'T' - 256, 'T' + 256, Integer.MIN_VALUE, Integer.MAX_VALUE}) {
            Check.due("write(" + letter + ")", x.write(letter), BAD);
        }
        for (int length = 1; length <= 31; length++) {
            x.write('T');
        }
        Check.due("the byte that makes 32", x.write(0), 32);
        Check.due("one more", x.write(0), OneTricycle.FULL);
        Check.due("one more", x.write(255), OneTricycle.FULL);
        Check.due("one more that is BAD", x.write(-1), BAD);
        Check.due("one more that is BAD", x.write(256), BAD);
        Sentence.of(2, "THE TEXT is bytes (32 at most).");
        Check.about(x, "full", 12, 32);
        Check.due("full: wipe", x.wipe(), 32);
        Check.due("not full any more", x.write('T'), 1);
    }

    private static void wipe() {
        Sentence.of(3, "THE TEXT is empty: how long it was.");
        OneTricycle x = new OneTricycle();
        for (int length : new int[] {0, 1, 4, 31, 32}) {
            for (int k = 0; k < length; k++) {
                x.write('T');
            }
            Check.due("wipe of " + length, x.wipe(), length);
            Check.about(x, "wiped", 12, 0);
            Check.due("wiped: fault", x.fault(), 0);
        }
        x = Check.garden("T121C910");
        x.minute();
        Check.due("wipe", x.wipe(), 8);
        Check.about(x, "THE GARDEN stays", 0, 1);
        Check.about(x, "who RIDES stays", 4, 1);
        Check.about(x, "ACTS stay", 10, 1);
    }

    private static OneTricycle typed(String text) {
        OneTricycle x = new OneTricycle();
        Check.type(x, text);
        return x;
    }

    private static void faultDue(String text, int due) {
        OneTricycle x = typed(text);
        Check.due("fault of " + text, x.fault(), due);
        Check.due("garden of " + text, x.garden(), due == NONE ? text.length() / 4 - 1 : OneTricycle.LATE);
    }

    private static boolean isWhole(int length) {
        return length >= 4 && length % 4 == 0;
    }

    /** Behind a start that is none, just the bytes least .. greatest are no FAULT. */
    private static void bytesBehind(String start, int least, int greatest) {
        for (int letter = 0; letter <= 255; letter++) {
            int length = start.length() + 1;
            int due = letter < least || letter > greatest ? length - 1 : isWhole(length) ? NONE : length;
            faultDue(start + (char) letter, due);
        }
    }

    private static void headOfTheText() {
        Sentence.of(4, "A GARDEN is a TEXT: T");
        bytesBehind("", 'T', 'T');
        Sentence.of(4, "a RULE (0 .. 3)");
        bytesBehind("T", '0', '3');
        Sentence.of(4, "LENGTH of a turn (1 .. 9)");
        bytesBehind("T0", '1', '9');
        Sentence.of(4, "THINGS (1, 2)");
        bytesBehind("T39", '1', '2');
    }

    private static void childrenOfTheText() {
        Sentence.of(4, "then CHILDREN, none or more");
        bytesBehind("T011", 'C', 'C');
        bytesBehind("T011C993", 'C', 'C');
        for (int length = 4; length <= 24; length += 4) {
            faultDue(FIVE.substring(0, length), NONE);
        }
        for (String child : new String[] {"T011", FIVE.substring(0, 20)}) {
            Sentence.of(4, "Cwsk a CHILD whose WISH is w (0 .. 9) at first");
            bytesBehind(child + "C", '0', '9');
            Sentence.of(4, "of STRENGTH s (1 .. 9)");
            bytesBehind(child + "C0", '1', '9');
            Sentence.of(4, "of KIND k (0 PLAIN, 1 BITER, 2 SHY, 3 GIVER)");
            bytesBehind(child + "C99", '0', '3');
        }
    }

    private static void mostChildren() {
        Sentence.of(4, "(5 at most)");
        faultDue(FIVE, NONE);
        for (int letter = 0; letter <= 255; letter++) {
            faultDue(FIVE + (char) letter, 24);
        }
        faultDue(FIVE + "C010", 24);
    }

    private static void faultIsTheFirst() {
        Sentence.of(4, "FAULT: the place of the first byte by which THE TEXT can be no GARDEN");
        for (int place = 0; place < FIVE.length(); place++) {
            faultDue(FIVE.substring(0, place) + "x", place);
            for (int later = place + 1; later < FIVE.length(); later++) {
                faultDue(FIVE.substring(0, place) + "x" + FIVE.substring(place + 1, later) + "x", place);
            }
        }
        Sentence.of(4, "whatever came behind it");
        for (int place = 0; place < FIVE.length(); place++) {
            faultDue(FIVE.substring(0, place) + "x" + FIVE.substring(place + 1), place);
            faultDue(FIVE.substring(0, place) + "x" + FIVE.substring(place, 24), place);
        }
    }

    private static void lengthSetAside() {
        Sentence.of(4, "(its length set aside)");
        for (int more = 1; more <= 8; more++) {
            faultDue(FIVE + "C010C010".substring(0, more), 24);
        }
        for (int place = 0; place < 24; place++) {
            String text = FIVE.substring(0, place) + "x" + FIVE + FIVE;
            faultDue(text.substring(0, 32), place);
        }
        OneTricycle x = typed(FIVE + "C010C010");
        Check.due("full", x.write('C'), OneTricycle.FULL);
        Check.due("full: fault", x.fault(), 24);
    }

    private static void notAtItsEnd() {
        Sentence.of(4, "its length, if it is only not at its end");
        for (int length = 0; length < 24; length++) {
            if (!isWhole(length)) {
                faultDue(FIVE.substring(0, length), length);
                faultDue("T392C993C993C993C993C993".substring(0, length), length);
            }
        }
    }

    private static void noFault() {
        Sentence.of(4, "NONE: none.");
        faultDue("T011", NONE);
        faultDue("T392C993", NONE);
        Sentence.of(4, "FAULT; NONE.");
        OneTricycle x = typed("T011C01");
        Check.due("a byte ahead of its end", x.fault(), 7);
        x.write('0');
        Check.due("at its end", x.fault(), NONE);
        Check.due("once more", x.fault(), NONE);
        Check.about(x, "THE TEXT stays", 12, 8);
        x.write('C');
        Check.due("a byte behind its end", x.fault(), 9);
    }

    private static void gardenIsTheText() {
        Sentence.of(5, "THE TEXT is THE GARDEN (no ACTS; what was kept is gone; SEEN, THE SEED stay): how many CHILDREN.");
        for (int length = 4; length <= 24; length += 4) {
            Check.due("garden", typed(FIVE.substring(0, length)).garden(), length / 4 - 1);
        }
        OneTricycle x = Check.garden("T121C990C990C990");
        x.minute();
        x.put();
        x.keep(0);
        x.keep(1);
        x.see(2, 1);
        x.seed(Long.MIN_VALUE);
        Check.due("garden once more", x.garden(), 3);
        Check.about(x, "no ACTS", 10, 0);
        Check.due("no ACTS", x.undo(), OneTricycle.LATE);
        Check.due("what was kept is gone", x.again(0), OneTricycle.LATE);
        Check.due("what was kept is gone", x.again(1), OneTricycle.LATE);
        Check.about(x, "SEEN stays", 11, 1);
        Check.due("SEEN stays", x.may(), 0);
        Check.due("THE SEED stays", x.seed(1), Long.MIN_VALUE);
        Check.about(x, "THE TEXT stays", 12, 16);
        Check.due("and once more", x.garden(), 3);
    }

    private static void numberedAsTold() {
        Sentence.of(5, "numbered as they are told");
        OneTricycle x = Check.garden("T011C920C811C732C643C590");
        int[][] due = {{9, 2, 0}, {8, 1, 1}, {7, 3, 2}, {6, 4, 3}, {5, 9, 0}};
        for (int child = 0; child < 5; child++) {
            for (int what = 0; what < 3; what++) {
                Check.child(x, "told", child, what, due[child][what]);
            }
        }
        Check.child(x, "told", 5, 0, UNKNOWN);
        Check.type(x, "T011C110C220");
        Check.due("garden of two", x.garden(), 2);
        Check.child(x, "the last of two", 1, 0, 2);
        Check.child(x, "there is no third one", 2, 0, UNKNOWN);
    }

    private static void madeAnew() {
        Sentence.of(5, "When THE GARDEN is made anew, nobody RIDES, nobody has RIDDEN, STARED, HOWLED, nobody was LAST, THE MINUTE is 0.");
        OneTricycle x = Check.garden("T192C990C990C990");
        Check.minutes(x, "two RIDE", 3);
        Check.due("push", x.push(1), 1);
        Check.minutes(x, "by SAND 2 has RIDDEN least", 5);
        Check.due("garden", x.garden(), 3);
        Check.about(x, "nobody RIDES", 4, 0);
        Check.about(x, "nobody was LAST", 8, NONE);
        Check.about(x, "THE MINUTE", 9, 0);
        for (int child = 0; child < 3; child++) {
            Check.child(x, "WISH at first", child, 0, 9);
            for (int what = 4; what <= 8; what++) {
                Check.child(x, "anew", child, what, 0);
            }
        }
        Check.type(x, "T011");
        Check.due("garden of nobody", x.garden(), 0);
        Check.type(x, "T192C990C990C990");
        Check.due("garden of three again", x.garden(), 3);
        Check.same("nothing is left of earlier ones", Check.told(x), Check.told(Check.garden("T192C990C990C990")));
    }

    private static void about() {
        Sentence.of(6, "CHILDREN (what = 0), the RULE (1), LENGTH (2), THINGS (3), who RIDES (4: bits), who WANTS (5: bits), "
            + "who ASKS (6: bits), NEXT (7; NONE), who was LAST (8; NONE), THE MINUTE (9), ACTS (10), SEEN (11), bytes of THE TEXT (12).");
        OneTricycle x = Check.garden("T291C952C480C990C910C890");
        int[] atFirst = {5, 2, 9, 1, 0, 0b11101, 0b11100, 2, NONE, 0, 0, 0, 24};
        for (int what = 0; what <= 12; what++) {
            Check.about(x, "at first", what, atFirst[what]);
        }
        Check.minutes(x, "2 gets on", 4, 4, 4, 4);
        Check.due("call", x.call(3), 9);
        Check.due("call", x.call(4), 9);
        Check.due("see", x.see(0, 1), 1);
        Check.due("see", x.see(0, 1), 2);
        Check.due("write", x.write('C'), 25);
        int[] due = {5, 2, 9, 1, 0b00100, 0b00011, 0b00010, 1, 2, 4, 6, 2, 25};
        for (int what = 0; what <= 12; what++) {
            Check.about(x, "four minutes on", what, due[what]);
        }
        Sentence.of(6, "BAD.");
        for (int what : new int[] {-1, 13, Integer.MIN_VALUE, Integer.MAX_VALUE}) {
            Check.about(x, "BAD", what, BAD);
        }
    }

    private static void wants() {
        Sentence.of(6, "One WANTS, if it does not RIDE, and its WISH is 5 or more");
        OneTricycle x = Check.garden("T011C010C410C510C610C910");
        Check.about(x, "WISHES 0 4 5 6 9", 5, 0b11100);
        Check.minutes(x, "the least of those that WANT RIDES", 4);
        Check.about(x, "WISHES 1 5 4 7 9, 2 RIDES", 5, 0b11010);
        Check.due("pushed off with a WISH of 4", x.push(2), 1);
        Check.about(x, "WISHES 1 5 4 7 9", 5, 0b11010);
        x = Check.garden("T011C610C010");
        Check.minutes(x, "0 RIDES with a WISH of 5", 1);
        Check.about(x, "who RIDES does not WANT", 5, 0);
        Check.due("push", x.push(0), 1);
        Check.about(x, "a WISH of 5, and it does not RIDE", 5, 1);
    }

    private static void asks() {
        Sentence.of(6, "it ASKS, if it WANTS, and is not SHY (by the LIST SHY ones ASK, too)");
        for (int rule = 0; rule <= 3; rule++) {
            OneTricycle x = Check.garden("T" + rule + "11C510C511C512C513C412");
            Check.about(x, "WANT, rule " + rule, 5, 0b01111);
            Check.about(x, "ASK, rule " + rule, 6, rule == 3 ? 0b01111 : 0b01011);
        }
        OneTricycle x = Check.garden("T311C992C912");
        Check.minutes(x, "a SHY one RIDES", 1);
        Check.about(x, "who RIDES does not ASK", 6, 2);
        Check.due("rule", x.rule(2, 1), 3);
        Check.about(x, "by the LINE a SHY one does not ASK", 6, 0);
        Check.about(x, "but it WANTS", 5, 2);
    }

    private static void nextDue(String text, int due) {
        Check.about(Check.garden(text), text, 7, due);
    }

    private static void nextByNone() {
        Sentence.of(6, "by NONE the one of greatest MIGHT");
        nextDue("T011C540C550", 1);
        nextDue("T011C550C540", 0);
        nextDue("T011C540C531", 1);
        nextDue("T011C560C531", 0);
        nextDue("T011C531C560", 1);
        nextDue("T011C580C571C590", 1);
        nextDue("T011C910C920C930C940C950", 4);
        // those of more MIGHT do not ASK
        nextDue("T011C490C910C592C920", 3);
    }

    private static void nextBySand() {
        Sentence.of(6, "by SAND the one that has RIDDEN least");
        OneTricycle x = Check.garden("T191C990C990");
        x.minute();
        x.push(0);
        Check.about(x, "1 and 0 RIDDEN", 7, 1);
        x.minute();
        x.minute();
        x.push(1);
        Check.about(x, "1 and 2 RIDDEN", 7, 0);
        x.minute();
        x.push(0);
        Check.about(x, "2 and 2 RIDDEN", 7, 0);
        x.minute();
        x.push(0);
        Check.about(x, "3 and 2 RIDDEN", 7, 1);
    }

    private static void nextByLine() {
        Sentence.of(6, "by the LINE the one that has STARED most since it rode");
        OneTricycle x = Check.garden("T291C990C490C390");
        Check.minutes(x, "0 RIDES", 1, 1);
        Check.about(x, "2 and 1 STARED since", 7, 1);
        x = Check.garden("T291C990C390C490");
        Check.minutes(x, "0 RIDES", 1, 1);
        Check.about(x, "1 and 2 STARED since", 7, 2);
        x = Check.garden("T291C990C990C990");
        Check.minutes(x, "0 RIDES", 1, 1, 1);
        Check.due("give", x.give(0, 1), 3);
        Check.minutes(x, "1 RIDES", 2);
        Check.due("give", x.give(1, 2), 1);
        Check.minutes(x, "2 RIDES", 4);
        Check.child(x, "0 has STARED", 0, 6, 2);
        Check.child(x, "1 has STARED more in all", 1, 6, 4);
        Check.about(x, "but 2 and 1 since they rode", 7, 0);
    }

    private static void nextByList() {
        Sentence.of(6, "by the LIST the one that comes first behind who was LAST (numbers round and round; nobody was: from 0 on)");
        OneTricycle x = Check.garden("T311C990C910C992C991C993");
        Check.about(x, "nobody was LAST", 8, NONE);
        Check.about(x, "from 0 on", 7, 0);
        for (int k = 0; k < 11; k++) {
            Check.due("minute " + k, x.minute(), 1 << k % 5);
            Check.about(x, "LAST", 8, k % 5);
            Check.about(x, "behind " + k % 5, 7, (k + 1) % 5);
        }
        nextDue("T311C490C990", 1);
        x = Check.garden("T391C990C090C990");
        Check.minutes(x, "0 RIDES", 1);
        Check.due("push", x.push(0), 1);
        Check.about(x, "behind 0, where 1 does not ASK", 7, 2);
        Check.due("call", x.call(2), 9);
        Check.about(x, "all round to who was LAST itself", 7, 0);
        x = Check.garden("T391C090C990C910");
        Check.minutes(x, "1 RIDES", 2);
        Check.due("give", x.give(1, 2), 1);
        Check.about(x, "behind the last one comes 0, then 1", 7, 1);
        x = Check.garden("T392C990C990C990C990");
        Check.minutes(x, "0 and 1 RIDE", 3);
        Check.due("push", x.push(1), 1);
        Check.about(x, "LAST is who got on last, RIDE it or not", 7, 2);
    }

    private static void nextOfLikeOnes() {
        Sentence.of(6, "of like ones the least");
        nextDue("T011C410C550C550C550", 1);
        nextDue("T011C550C531", 0);
        nextDue("T011C531C550", 0);
        nextDue("T111C410C510C990", 1);
        nextDue("T211C410C510C990", 1);
        OneTricycle x = Check.garden("T291C990C410C490");
        Check.minutes(x, "0 RIDES", 1, 1);
        Check.about(x, "2 and 2 STARED since", 7, 1);
    }

    private static void nextIsNobody() {
        Sentence.of(6, "NONE: nobody ASKS.");
        for (int rule = 0; rule <= 3; rule++) {
            nextDue("T" + rule + "11", NONE);
            nextDue("T" + rule + "11C490C491C492C493", NONE);
            nextDue("T" + rule + "11C490C491C492C593", 3);
            nextDue("T" + rule + "11C992", rule == 3 ? 0 : NONE);
        }
        OneTricycle x = Check.garden("T311C990");
        x.minute();
        Check.about(x, "the only one RIDES", 7, NONE);
    }

    private static void nextIsOfNow() {
        Sentence.of(6, "NEXT is of those that ASK (by their WISHES and who RIDES now):");
        OneTricycle x = Check.garden("T011C930C920C910");
        Check.about(x, "all ASK", 7, 0);
        Check.due("call", x.call(0), 9);
        Check.about(x, "0 is CALLED", 7, 1);
        Check.minutes(x, "1 RIDES", 2);
        Check.about(x, "who RIDES is not NEXT", 7, 2);
        Check.due("push", x.push(1), 1);
        Check.about(x, "1 is off, and ASKS", 7, 1);
        Check.due("undo", x.undo(), 2);
        Check.about(x, "1 RIDES again", 7, 2);
    }

    private static void child() {
        Sentence.of(7, "Of a CHILD its WISH (what = 0), STRENGTH (1), KIND (2), MIGHT (3), how long it rode (4; 0: it does not RIDE), "
            + "what it has RIDDEN (5), STARED in all (6), since it rode (7), HOWLED (8).");
        OneTricycle x = Check.garden("T191C991C950");
        Check.minutes(x, "0 RIDES", 1, 1);
        Check.due("push", x.push(0), 1);
        Check.minutes(x, "1 RIDES", 2, 2);
        Check.due("give", x.give(1, 0), 2);
        Check.minutes(x, "0 RIDES", 1, 1, 1);
        Check.due("push", x.push(0), 2);
        Check.minutes(x, "1 RIDES", 2);
        Check.due("give", x.give(1, 0), 1);
        Check.minutes(x, "0 RIDES", 1, 1);
        int[][] due = {{5, 9, 1, 11, 2, 7, 3, 0, 2}, {9, 5, 0, 5, 0, 3, 7, 2, 0}};
        for (int child = 0; child < 2; child++) {
            for (int what = 0; what <= 8; what++) {
                Check.child(x, "T191C991C950", child, what, due[child][what]);
            }
        }
        Sentence.of(7, "UNKNOWN; BAD.");
        for (int count = 0; count <= 5; count++) {
            OneTricycle some = Check.garden(FIVE.substring(0, 4 + 4 * count));
            for (int child = -1; child <= 6; child++) {
                boolean isThere = child >= 0 && child < count;
                Check.child(some, count + " CHILDREN", child, 1, isThere ? 1 : UNKNOWN);
                Check.child(some, count + " CHILDREN", child, 8, isThere ? 0 : UNKNOWN);
                Check.child(some, count + " CHILDREN", child, 9, isThere ? BAD : UNKNOWN);
                Check.child(some, count + " CHILDREN", child, -1, isThere ? BAD : UNKNOWN);
            }
        }
    }

    private static void might() {
        Sentence.of(7, "MIGHT of a CHILD: its STRENGTH (BITER: 2 more).");
        for (int kind = 0; kind <= 3; kind++) {
            OneTricycle x = Check.garden("T011C01" + kind + "C09" + kind);
            Check.child(x, "kind " + kind, 0, 3, kind == 1 ? 3 : 1);
            Check.child(x, "kind " + kind, 1, 3, kind == 1 ? 11 : 9);
            Check.child(x, "kind " + kind, 1, 1, 9);
        }
    }
}
