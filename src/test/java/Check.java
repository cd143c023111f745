/** What the tests share: answers held against those that are due, and gardens made from texts. */
final class Check {
    private static final int MOST_PRINTED = 40;
    private static int asked = 0;
    private static int wrong = 0;
    /** The promise and the sentence that are being tested, where a test names them. */
    private static String place = "";

    private Check() {
    }

    private static void isWrong(String what) {
        wrong++;
        if (wrong <= MOST_PRINTED) {
            System.out.println(place + what);
        }
    }

    static void at(String newPlace) {
        place = newPlace;
    }

    static void due(String call, long got, long want) {
        asked++;
        if (got != want) {
            isWrong(call + " answered " + got + ", due is " + want);
        }
    }

    static void holds(String what, boolean isSo) {
        asked++;
        if (!isSo) {
            isWrong("not so: " + what);
        }
    }

    static void type(OneTricycle x, String text) {
        x.wipe();
        for (int place = 0; place < text.length(); place++) {
            due("write in " + text, x.write(text.charAt(place)), place + 1);
        }
    }

    static OneTricycle garden(String text) {
        OneTricycle x = new OneTricycle();
        type(x, text);
        due("garden " + text, x.garden(), (text.length() - 4) / 4);
        return x;
    }

    /** A minute for each of what is due, one after the other. */
    static void minutes(OneTricycle x, String where, int... due) {
        for (int k = 0; k < due.length; k++) {
            due(where + ": minute " + (k + 1), x.minute(), due[k]);
        }
    }

    static void about(OneTricycle x, String where, int what, int due) {
        due(where + ": about(" + what + ")", x.about(what), due);
    }

    static void child(OneTricycle x, String where, int child, int what, int due) {
        due(where + ": child(" + child + ", " + what + ")", x.child(child, what), due);
    }

    /** All that about and child tell, as a text: two objects that tell the same are in the same state. */
    static String told(OneTricycle x) {
        StringBuilder told = new StringBuilder();
        for (int what = 0; what <= 12; what++) {
            told.append(x.about(what)).append(what < 12 ? " " : " |");
        }
        for (int child = 0; child < x.about(0); child++) {
            for (int what = 0; what <= 8; what++) {
                told.append(' ').append(x.child(child, what));
            }
            told.append(" |");
        }
        return told.toString();
    }

    static void same(String what, String got, String want) {
        asked++;
        if (!got.equals(want)) {
            isWrong(what + ": told " + got + ", due is " + want);
        }
    }

    static void end(String name) {
        System.out.println(name + ": " + (asked - wrong) + " answers as due, " + wrong + " not");
        if (wrong != 0 || asked == 0) {
            System.exit(1);
        }
    }
}
