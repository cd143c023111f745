/** Objects in which everything holds something, so that it would be seen if a call changed it. */
final class Played {
    static final long SEED = 77;
    /** THE TEXT is another garden than the one in which they play. */
    private static final String OTHER = "T211C512";

    private Played() {
    }

    /** 0 RIDES, 1 WANTS, 2 has no WISH; by SAND, in turns of 9; the row of ACTS is full, both SLOTS hold something. */
    static OneTricycle one() {
        return played("T191C990C990C990");
    }

    /** As one, but 0 and 1 RIDE two THINGS. */
    static OneTricycle two() {
        return played("T192C990C990C990");
    }

    private static OneTricycle played(String text) {
        OneTricycle x = noneKept(text);
        x.minute();
        x.keep(0);
        for (int k = 0; k < 14; k++) {
            x.rule(k % 2 == 0 ? 2 : 1, 9);
        }
        x.call(2);
        x.keep(1);
        Check.type(x, OTHER);
        return x;
    }

    private static OneTricycle noneKept(String text) {
        OneTricycle x = Check.garden(text);
        x.seed(SEED);
        x.see(0, 2);
        x.see(1, 4);
        x.see(2, 20);
        return x;
    }

    /** Gone on from SLOT 0, so that there are no ACTS. */
    static OneTricycle noActs() {
        OneTricycle x = one();
        x.again(0);
        return x;
    }

    /** Two ACTS, and nothing kept, or just in one SLOT. */
    static OneTricycle kept(int slot) {
        OneTricycle x = noneKept("T191C990C990C990");
        x.minute();
        x.keep(slot);
        x.minute();
        return x;
    }

    static OneTricycle noneKept() {
        return kept(-1);
    }

    static OneTricycle allSeen() {
        OneTricycle x = one();
        x.see(0, 1);
        x.see(0, 3);
        x.see(1, 10);
        return x;
    }

    static OneTricycle typed(String text) {
        OneTricycle x = one();
        Check.type(x, text);
        return x;
    }

    static OneTricycle fullText() {
        return typed("T211C512T211C512T211C512T211C512");
    }
}
