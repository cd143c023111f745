/** Promises 23 to 25: what is SEEN, and by which RULES it may be. */
public final class SeenTest {
    public static void main(String[] args) {
        see();
        unsee();
        may();
        mayFromNowOn();
        mayWithoutSomeChildren();
        Check.end("SeenTest");
    }

    private static void see() {
        OneTricycle x = Check.garden("T111C990C990");
        Check.due("see(2, 0)", x.see(2, 0), OneTricycle.UNKNOWN);
        Check.due("see(-1, 1)", x.see(-1, 1), OneTricycle.UNKNOWN);
        Check.due("see(0, 0)", x.see(0, 0), OneTricycle.BAD);
        Check.due("see(0, 21)", x.see(0, 21), OneTricycle.BAD);
        Check.due("see(1, -1)", x.see(1, -1), OneTricycle.BAD);
        Check.about(x, "refused", 11, 0);
        Check.due("see(0, 1)", x.see(0, 1), 1);
        Check.due("see(1, 20)", x.see(1, 20), 2);
        Check.due("the same again", x.see(1, 20), 3);
        for (int k = 4; k <= 6; k++) {
            Check.due("see", x.see(0, k), k);
        }
        Check.due("see, full", x.see(0, 1), OneTricycle.FULL);
        Check.due("see, full and bad", x.see(0, 21), OneTricycle.BAD);
        Check.due("see, full and unknown", x.see(2, 1), OneTricycle.UNKNOWN);
        Check.about(x, "full", 11, 6);
        Check.about(x, "no ACT", 10, 0);
    }

    private static void unsee() {
        OneTricycle x = Check.garden("T111C990C990");
        Check.due("unsee, none", x.unsee(), 0);
        x.see(1, 1);
        x.see(0, 1);
        Check.due("may", x.may(), 0);
        Check.due("unsee", x.unsee(), 2);
        Check.about(x, "nothing is SEEN", 11, 0);
        Check.due("may, nothing is SEEN", x.may(), 15);
        Check.due("see", x.see(0, 1), 1);
    }

    private static void may() {
        // turns of 2. NONE: 1 of greatest MIGHT; SAND and the LINE: 0; SHY 2 rides by the LIST alone
        OneTricycle x = Check.garden("T021C910C990C992");
        Check.due("nothing is SEEN", x.may(), 0b1111);
        x.see(0, 2);
        Check.due("0 in 2", x.may(), 0b1110);
        x.see(1, 4);
        Check.due("1 in 4", x.may(), 0b1110);
        x.see(2, 6);
        Check.due("2 in 6", x.may(), 0b1000);
        x.see(2, 5);
        Check.due("2 in 5, told behind", x.may(), 0b1000);
        x.see(1, 6);
        Check.due("1 in 6, with one thing", x.may(), 0);
        x.unsee();
        x.see(1, 1);
        Check.due("1 in 1", x.may(), 0b0001);
        x.see(1, 9);
        Check.due("1 in 9", x.may(), 0b0001);
        x.see(1, 20);
        Check.due("1 in 20", x.may(), x.by(0, 2, 20, 0) == 2 ? 1 : 0);
        Check.same("nothing is changed", Check.told(x).substring(0, 16), "3 0 2 1 0 7 3 1 ");
        x = Check.garden("T111C990C990");
        x.see(1, 3);
        Check.due("turns of 1: 1 in 3", x.may(), 0);
        x.rule(0, 2);
        Check.due("turns of 2: 1 in 3", x.may(), 0b1110);
    }

    private static void mayFromNowOn() {
        OneTricycle x = Check.garden("T021C910C990C992");
        x.see(1, 1);
        Check.due("now", x.may(), 0b0001);
        x.rule(3, 2);
        Check.minutes(x, "by the LIST", 1, 1);
        Check.due("from now on 1 comes by SAND and the LIST; by the LINE, by NONE", x.may(), 0b1111);
        Check.minutes(x, "by the LIST", 2);
        Check.due("1 RIDES on", x.may(), 0b1111);
        Check.minutes(x, "by the LIST", 2);
        Check.due("its turn ends, but by NONE", x.may(), 0b0001);
    }

    private static void mayWithoutSomeChildren() {
        OneTricycle x = Check.garden("T111C990C990C990");
        x.see(2, 1);
        x.see(0, 1);
        Check.due("0 and 2 at once", x.may(), 0);
        Check.type(x, "T111C990C990");
        Check.due("garden", x.garden(), 2);
        Check.about(x, "SEEN stays", 11, 2);
        Check.due("2 is not there any more", x.may(), 15);
        Check.type(x, "T111C490C490C990");
        Check.due("garden", x.garden(), 3);
        Check.due("2 is there again, 0 does not ASK", x.may(), 0);
        Check.type(x, "T111");
        Check.due("garden", x.garden(), 0);
        Check.due("nobody is there", x.may(), 15);
        Check.due("unsee", x.unsee(), 2);
    }
}
