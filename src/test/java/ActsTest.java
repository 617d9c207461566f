/** Promises 11 to 14, 37 and 38: bells held, seats changed, rules obeyed, undone; the image. */
public final class ActsTest {
    private static final String ORDINARY = "ride 60 40 50;rider 0 2 below 3;rider 0 3 above 2 note;"
            + "rider 1 2 below 5;rider 1 3 below 0 maybe 5;stair 10;picks 0-near;picks hops;";

    public static void main(String[] args) {
        holds();
        sits();
        obeys();
        undoes();
        fortyActs();
        images();
        imageOfActs();
        Check.end("ActsTest");
    }

    private static void holds() {
        TingDecks x = Check.bus(ORDINARY);
        Check.due("hold(1, 60)", 0, () -> x.hold(1, 60));
        Check.due("hold(1, 0)", 60, () -> x.hold(1, 0));
        Check.due("hold(1, 5)", 0, () -> x.hold(1, 5));
        Check.due("hold(3, 5), the last STOP", 0, () -> x.hold(3, 5));
        Check.due("hold(1, 61)", -1, () -> x.hold(1, 61));
        Check.due("hold(1, -1)", -1, () -> x.hold(1, -1));
        Check.due("hold(4, 5)", Check.NO_SUCH, () -> x.hold(4, 5));
        Check.due("hold(-1, 99)", Check.NO_SUCH, () -> x.hold(-1, 99));
        Check.due("STATUS 1", 2, () -> x.count(16));
        Check.due("ACTS", 4, () -> x.count(12));
        Check.due("HOLD", 5, () -> x.stop(1, 1));
        Check.due("ahead of it nothing moves", 60, () -> x.stop(1, 0));
        Check.due("behind it all moves", 105, () -> x.stop(2, 0));
        Check.due("behind it all moves", 155, () -> x.stop(3, 0));
        Check.due("NET", 16 - 6 * 10 / 60, () -> x.count(10));
    }

    private static void sits() {
        TingDecks x = Check.bus(ORDINARY);
        Check.due("somebody sits there", -1, () -> x.sit(0, 0, 5));
        Check.due("somebody sits there", -1, () -> x.sit(2, 0, 3));
        Check.due("no such DECK", -1, () -> x.sit(0, 2, 5));
        Check.due("no such DECK", -1, () -> x.sit(0, -1, 5));
        Check.due("no such SEAT", -1, () -> x.sit(0, 0, 10));
        Check.due("no such SEAT", -1, () -> x.sit(0, 1, -1));
        Check.due("no such RIDER", Check.NO_SUCH, () -> x.sit(4, 0, 9));
        Check.due("no such RIDER, no such SEAT", Check.NO_SUCH, () -> x.sit(-1, 7, 9));
        Check.due("STATUS 1", 6, () -> x.count(16));
        Check.due("ACTS", 0, () -> x.count(12));
        Check.due("sit(1, 0, 9)", 12, () -> x.sit(1, 0, 9));
        Check.due("DECK", 0, () -> x.rider(1, 2));
        Check.due("SEAT", 9, () -> x.rider(1, 3));
        Check.due("sit(0, 1, 2), which is free now", 3, () -> x.sit(0, 1, 2));
        Check.due("and so is his", 5, () -> x.sit(2, 0, 3));
        Check.due("ACTS", 3, () -> x.count(12));
        // They meet at a STOP, but for no RIDE.
        TingDecks y = Check.bus("ride 9 9;rider 0 1 below 0;rider 1 2 above 0;");
        Check.due("one behind the other", 0, () -> y.sit(0, 1, 0));
    }

    private static void obeys() {
        TingDecks x = Check.bus(ORDINARY);
        Check.due("obey(1)", 1, () -> x.obey(1) ? 1 : 0);
        Check.due("rule", 1, () -> x.count(3));
        Check.due("by hops rider 1 is first", 1, () -> x.ting(0));
        Check.due("obey(2)", 0, () -> x.obey(2) ? 1 : 0);
        Check.due("obey(-2)", 0, () -> x.obey(-2) ? 1 : 0);
        Check.due("rule", 1, () -> x.count(3));
        Check.due("STATUS 1", 2, () -> x.count(16));
        Check.due("obey(NONE)", 1, () -> x.obey(TingDecks.NONE) ? 1 : 0);
        Check.due("rule", -1, () -> x.count(3));
        Check.due("nearest", 0, () -> x.ting(0));
        Check.due("ACTS", 2, () -> x.count(12));
    }

    private static void undoes() {
        TingDecks x = Check.bus(ORDINARY);
        Check.due("nothing to undo", -1, x::undo);
        x.hold(0, 7);
        x.sit(0, 1, 9);
        x.obey(1);
        x.hold(0, 9);
        Check.due("undo", 3, x::undo);
        Check.due("HOLD", 7, () -> x.stop(0, 1));
        Check.due("STOP 1", 67, () -> x.stop(1, 0));
        Check.due("undo", 2, x::undo);
        Check.due("rule", -1, () -> x.count(3));
        Check.due("undo", 1, x::undo);
        Check.due("DECK", 0, () -> x.rider(0, 2));
        Check.due("SEAT", 3, () -> x.rider(0, 3));
        Check.due("undo", 0, x::undo);
        Check.due("HOLD", 0, () -> x.stop(0, 1));
        Check.due("undo", -1, x::undo);
        Check.due("STATUS 1", 0, () -> x.count(16));
    }

    private static void fortyActs() {
        TingDecks x = Check.bus(ORDINARY);
        for (int i = 1; i <= 43; i++) {
            x.hold(0, i);
        }
        Check.due("ACTS", 40, () -> x.count(12));
        for (int i = 39; i >= 0; i--) {
            int left = i;
            Check.due("undo", left, x::undo);
            Check.due("HOLD", left + 3, () -> x.stop(0, 1));
        }
        Check.due("the first ones are gone", -1, x::undo);
        Check.due("HOLD", 3, () -> x.stop(0, 1));
        mixedActs(x);
    }

    /** Forty acts and more of all kinds, of which each is undone as itself. */
    private static void mixedActs(TingDecks x) {
        int[] seats = new int[48];
        for (int i = 0; i < 48; i++) {
            seats[i] = x.rider(i % 4, 2) * 10 + x.rider(i % 4, 3);
            if (i % 3 == 0) {
                x.hold(i % 4, i);
            } else if (i % 3 == 1) {
                x.sit(i % 4, 1, 3 + i % 7);
            } else {
                x.obey(i % 2);
            }
        }
        for (int i = 47; i >= 8; i--) {
            int nth = i;
            Check.due("undo of all kinds", nth - 8, x::undo);
            if (i % 3 == 1) {
                Check.due("SEAT", seats[nth], () -> x.rider(nth % 4, 2) * 10 + x.rider(nth % 4, 3));
            }
        }
        Check.due("HOLD", 6, () -> x.stop(2, 1));
        Check.due("rule", 1, () -> x.count(3));
    }

    private static void images() {
        TingDecks x = Check.bus(ORDINARY);
        Check.due("no image", 0, () -> x.restore() ? 1 : 0);
        x.hold(0, 7);
        x.sit(0, 1, 9);
        x.obey(1);
        x.head(1, 0, 2);
        x.image();
        int taken = x.count(9);
        x.hold(0, 1);
        x.sit(0, 0, 9);
        x.obey(0);
        x.head(1, 0, 3);
        for (int i = 0; i < 2; i++) {
            Check.due("restore", 1, () -> x.restore() ? 1 : 0);
            Check.due("HOLD", 7, () -> x.stop(0, 1));
            Check.due("DECK", 1, () -> x.rider(0, 2));
            Check.due("rule", 1, () -> x.count(3));
            Check.due("ACTS", 3, () -> x.count(12));
            Check.due("COUNTED", 1, () -> x.count(13));
            Check.due("TAKEN", taken, () -> x.count(9));
            x.undo();
            x.undo();
            x.forget();
        }
        x.image();
        x.restore();
        Check.due("another image in its place: ACTS", 1, () -> x.count(12));
        Check.due("another image in its place: COUNTED", 0, () -> x.count(13));
        Check.read(x, "step 1;");
        Check.due("gone with a new bus", 0, () -> x.restore() ? 1 : 0);
    }

    private static void imageOfActs() {
        TingDecks x = Check.bus(ORDINARY);
        x.hold(0, 7);
        x.hold(0, 8);
        x.image();
        x.undo();
        x.undo();
        x.sit(0, 1, 8);
        x.sit(0, 1, 7);
        x.restore();
        Check.due("undo behind restore", 1, x::undo);
        Check.due("HOLD", 7, () -> x.stop(0, 1));
        Check.due("SEAT", 3, () -> x.rider(0, 3));
        Check.due("undo behind restore", 0, x::undo);
        Check.due("HOLD", 0, () -> x.stop(0, 1));
        Check.due("SEAT", 3, () -> x.rider(0, 3));
    }
}
