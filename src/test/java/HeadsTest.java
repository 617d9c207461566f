/** Promises 24 to 27: heads counted, who must have moved, games of decks. */
public final class HeadsTest {
    private static final String ORDINARY = "ride 60 40 50;rider 0 2 below 3;rider 0 3 above 2 note;"
            + "rider 1 2 below 5;rider 1 3 below 0 maybe 5;stair 10;";

    public static void main(String[] args) {
        heads();
        fits();
        games();
        restingGames();
        Check.end("HeadsTest");
    }

    private static void heads() {
        TingDecks x = Check.bus(ORDINARY);
        Check.due("head(4, 0, 0)", Check.NO_SUCH, () -> x.head(4, 0, 0));
        Check.due("head(-1, 2, 13)", Check.NO_SUCH, () -> x.head(-1, 2, 13));
        Check.due("head(0, 2, 0)", -1, () -> x.head(0, 2, 0));
        Check.due("head(0, -1, 0)", -1, () -> x.head(0, -1, 0));
        Check.due("head(0, 0, 13)", -1, () -> x.head(0, 0, 13));
        Check.due("head(0, 0, -1)", -1, () -> x.head(0, 0, -1));
        Check.due("STATUS 2", 4, () -> x.count(17));
        for (int i = 1; i <= 8; i++) {
            int n = i;
            Check.due("head", n, () -> x.head(3, n % 2, n == 8 ? 12 : 0));
            Check.due("COUNTED", n, () -> x.count(13));
        }
        Check.due("there are 8", -1, () -> x.head(0, 0, 1));
        Check.due("there are 8, no such STOP", Check.NO_SUCH, () -> x.head(4, 0, 1));
        Check.due("STATUS 2", 5, () -> x.count(17));
        Check.due("12 heads at the last STOP", 0, () -> x.fits(0));
        x.forget();
        Check.due("COUNTED", 0, () -> x.count(13));
        Check.due("head", 1, () -> x.head(0, 0, 1));
    }

    private static void fits() {
        TingDecks x = Check.bus(ORDINARY);
        Check.due("all sets", 16, () -> x.fits(0));
        Check.due("the least", 0, () -> x.fits(1));
        Check.due("in all", 0, () -> x.fits(2));
        Check.due("fits(3)", Check.NO_SUCH, () -> x.fits(3));
        Check.due("fits(-1)", Check.NO_SUCH, () -> x.fits(-1));
        // Both of STOP 0 sat above: rider 0 must have moved, rider 1 has not.
        x.head(0, 1, 2);
        Check.due("fits(0)", 4, () -> x.fits(0));
        Check.due("fits(1)", 1, () -> x.fits(1));
        Check.due("fits(2)", 1, () -> x.fits(2));
        // At STOP 2 riders 1 and 3 are there: one of them below, so that is rider 3, who has not moved.
        x.head(2, 0, 1);
        Check.due("fits(0)", 2, () -> x.fits(0));
        Check.due("fits(2)", 1, () -> x.fits(2));
        x.head(1, 0, 1);
        Check.due("fits(0)", 1, () -> x.fits(0));
        Check.due("fits(1)", 5, () -> x.fits(1));
        Check.due("fits(2)", 5, () -> x.fits(2));
        x.sit(0, 1, 9);
        Check.due("he has moved himself", 4, () -> x.fits(1));
        x.undo();
        x.head(0, 0, 2);
        Check.due("none fits: how many", 0, () -> x.fits(0));
        Check.due("none fits: the least", -1, () -> x.fits(1));
        Check.due("none fits: in all", 0, () -> x.fits(2));
        x.forget();
        Check.due("forgotten", 16, () -> x.fits(0));
    }

    private static void games() {
        TingDecks x = Check.bus(ORDINARY);
        Check.due("game(1, 0, 0)", 0, () -> x.game(1, 0, 0));
        Check.due("game(1, 0, 1)", -1, () -> x.game(1, 0, 1));
        Check.due("game(1, 1, 0)", 1, () -> x.game(1, 1, 0));
        Check.due("game(1, 1, 1)", 1, () -> x.game(1, 1, 1));
        Check.due("he has got off", Check.ILLEGAL, () -> x.game(2, 0, 0));
        Check.due("he has not got on", Check.ILLEGAL, () -> x.game(0, 2, 1));
        Check.due("another what is ahead", Check.NO_SUCH, () -> x.game(0, 2, 2));
        Check.due("game(4, 0, 0)", Check.NO_SUCH, () -> x.game(4, 0, 0));
        Check.due("game(-1, 0, 0)", Check.NO_SUCH, () -> x.game(-1, 0, 0));
        Check.due("game(0, 4, 0)", Check.NO_SUCH, () -> x.game(0, 4, 0));
        Check.due("game(0, -1, 0)", Check.NO_SUCH, () -> x.game(0, -1, 0));
        Check.due("game(1, 0, -1)", Check.NO_SUCH, () -> x.game(1, 0, -1));
    }

    private static void restingGames() {
        // Who pays nothing does not mind, and all gain nothing.
        TingDecks x = Check.bus("rider 0 1 below 0;fare 0;");
        Check.due("all rest", 4, () -> x.game(0, 0, 0));
        Check.due("the first", 0, () -> x.game(0, 0, 1));
        // All others sit above, and are worth as much as he: he above, the rider below.
        TingDecks y = Check.bus("rider 0 1 below 0;rider 0 1 above 0;");
        Check.due("one rests", 1, () -> y.game(0, 0, 0));
        Check.due("it", 10, () -> y.game(0, 0, 1));
        TingDecks z = Check.bus("rider 0 1 below 0;rider 0 1 above 0;fare 1-deck;");
        Check.due("the others pay nothing", 0, () -> z.game(0, 0, 0));
        // Rider 1 pays nothing: he may choose any DECK, as long as 0's FARE is below.
        Check.due("two rest", 2, () -> z.game(0, 1, 0));
        Check.due("the first", 0, () -> z.game(0, 1, 1));
    }
}
