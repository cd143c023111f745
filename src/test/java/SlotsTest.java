/** Promises 30 and 31: kept and gone on from. */
public final class SlotsTest {
    public static void main(String[] args) {
        keepAndAgain();
        slotsRefused();
        slotsBesideOthers();
        Check.end("SlotsTest");
    }

    private static OneTricycle played() {
        OneTricycle x = Check.garden("T022C950C431C772C813C390");
        for (int k = 0; k < 6; k++) {
            x.minute();
        }
        return x;
    }

    /** What about tells of ACTS is no part of what is kept. */
    private static String kept(OneTricycle x) {
        while (x.undo() > 0) {
            Check.holds("an ACT was there", true);
        }
        return Check.told(x);
    }

    private static void keepAndAgain() {
        OneTricycle x = played();
        Check.due("keep(0)", x.keep(0), 6);
        Check.about(x, "keep is no ACT, and leaves them", 10, 6);
        int[] about = new int[13];
        int[][] child = new int[5][9];
        for (int what = 0; what <= 12; what++) {
            about[what] = x.about(what);
        }
        for (int k = 0; k < 45; k++) {
            child[k / 9][k % 9] = x.child(k / 9, k % 9);
        }
        x.rule(3, 7);
        x.put();
        x.call(4);
        x.minute();
        x.push(Integer.numberOfTrailingZeros(x.about(4)));
        x.minute();
        x.minute();
        Check.due("keep(1)", x.keep(1), 9);
        for (int round = 0; round < 2; round++) {
            Check.due("again(0)", x.again(0), 6);
            for (int what = 0; what <= 12; what++) {
                Check.about(x, "as kept", what, what == 10 ? 0 : about[what]);
            }
            for (int k = 0; k < 45; k++) {
                Check.child(x, "as kept", k / 9, k % 9, child[k / 9][k % 9]);
            }
            Check.due("no ACTS", x.undo(), OneTricycle.LATE);
            x.minute();
            x.put();
        }
        Check.due("again(1)", x.again(1), 9);
        Check.about(x, "the other slot", 1, 3);
        Check.about(x, "the other slot", 2, 7);
        Check.about(x, "the other slot", 3, 1);
        Check.due("kept over", x.keep(0), 9);
        Check.due("again(0)", x.again(0), 9);
        Check.about(x, "kept over", 2, 7);
    }

    private static void slotsRefused() {
        OneTricycle x = played();
        int[] wrong = {-1, 2, Integer.MIN_VALUE, Integer.MAX_VALUE};
        for (int slot : wrong) {
            Check.due("keep(" + slot + ")", x.keep(slot), OneTricycle.UNKNOWN);
            Check.due("again(" + slot + ")", x.again(slot), OneTricycle.UNKNOWN);
        }
        Check.due("again(0), none kept", x.again(0), OneTricycle.LATE);
        Check.due("again(1), none kept", x.again(1), OneTricycle.LATE);
        Check.due("keep(1)", x.keep(1), 6);
        Check.due("again(0), none kept there", x.again(0), OneTricycle.LATE);
        Check.same("refused", Check.told(x), Check.told(played()));
        Check.due("again(1)", x.again(1), 6);
    }

    private static void slotsBesideOthers() {
        OneTricycle x = played();
        x.keep(0);
        x.see(0, 3);
        x.seed(6);
        x.write('x');
        Check.due("undo", x.undo(), 5);
        Check.due("again(0)", x.again(0), 6);
        Check.about(x, "SEEN stays", 11, 1);
        Check.about(x, "THE TEXT stays", 12, 25);
        Check.due("THE SEED stays", x.seed(0), 6);
        OneTricycle nobody = new OneTricycle();
        Check.due("keep(0) of nobody", nobody.keep(0), 0);
        nobody.minute();
        Check.due("again(0) of nobody", nobody.again(0), 0);
        Check.same("nobody", kept(nobody), Check.told(new OneTricycle()));
    }
}
