/** Promises 5 to 10, 29 and 30: what is told of a ride. */
public final class RideTest {
    private static final String ORDINARY = "ride 60 40 50;rider 0 2 below 3;rider 0 3 above 2 note;"
            + "rider 1 2 below 5;rider 1 3 below 0 maybe 5;stair 10;";

    public static void main(String[] args) {
        ordinary();
        counts();
        stops();
        riders();
        paying();
        missing();
        picking();
        ways();
        wheres();
        walking();
        tings();
        Check.end("RideTest");
    }

    private static void ordinary() {
        TingDecks x = Check.bus(ORDINARY);
        long[] paidAt = {8, 38, 87, 77};
        long[] asked = {0, 1, 3, 2};
        for (int i = 0; i < 4; i++) {
            int r = i;
            Check.due("paid(" + r + ", 0)", paidAt[r], () -> x.paid(r, 0));
            Check.due("paid(" + r + ", 1)", 0, () -> x.paid(r, 1));
            Check.due("paid(" + r + ", 2)", asked[r], () -> x.paid(r, 2));
        }
    }

    private static void counts() {
        TingDecks x = Check.bus("ride 10 10;rider 0 1 below 9;rider 0 2 below 0;picks 1;late 90;");
        x.hold(2, 60);
        Check.due("TAKEN", 4, () -> x.count(9));
        // The last STOP's HOLD costs too: 90 * 60 / 60.
        Check.due("NET", 4 - 90, () -> x.count(10));
        Check.due("who paid", 2, () -> x.count(11));
        x.hold(2, 1);
        Check.due("NET is cut down: 90 * 1 / 60", 3, () -> x.count(10));
        Check.due("ACTS", 2, () -> x.count(12));
        x.head(0, 0, 2);
        Check.due("COUNTED", 1, () -> x.count(13));
        x.hold(0, 61);
        x.head(0, 2, 0);
        x.head(0, 2, 0);
        Check.due("STATUS 1", 1, () -> x.count(16));
        Check.due("STATUS 2", 2, () -> x.count(17));
        Check.due("PICKS", 1, () -> x.count(2));
        x.obey(0);
        Check.due("rule", 0, () -> x.count(3));
        Check.due("count(-1)", Check.NO_SUCH, () -> x.count(-1));
        Check.due("count(18)", Check.NO_SUCH, () -> x.count(18));
    }

    private static void stops() {
        TingDecks x = Check.bus(ORDINARY);
        x.hold(0, 7);
        x.hold(2, 60);
        x.hold(3, 1);
        int[][] due = {{0, 7, 3, 3}, {67, 0, 15, 12}, {107, 60, 10, 0}, {217, 1, 0, 0}};
        for (int s = 0; s < 4; s++) {
            for (int w = 0; w < 4; w++) {
                int stop = s;
                int what = w;
                Check.due("stop(" + s + ", " + w + ")", due[s][w], () -> x.stop(stop, what));
            }
        }
        Check.due("stop(4, 0)", Check.NO_SUCH, () -> x.stop(4, 0));
        Check.due("stop(-1, 0)", Check.NO_SUCH, () -> x.stop(-1, 0));
        Check.due("stop(0, 4)", Check.NO_SUCH, () -> x.stop(0, 4));
        Check.due("stop(0, -1)", Check.NO_SUCH, () -> x.stop(0, -1));
    }

    private static void riders() {
        TingDecks x = Check.bus(ORDINARY + "fare hops+10*deck+seat;");
        int[][] due = {{0, 2, 0, 3, 0, 10, 5}, {0, 3, 1, 2, 1, 10, 15}, {1, 2, 0, 5, 0, 10, 6}, {1, 3, 0, 0, 0, 5, 2}};
        for (int r = 0; r < 4; r++) {
            for (int w = 0; w < 7; w++) {
                int rider = r;
                int what = w;
                Check.due("rider(" + r + ", " + w + ")", due[r][w], () -> x.rider(rider, what));
            }
        }
        Check.due("rider(4, 0)", Check.NO_SUCH, () -> x.rider(4, 0));
        Check.due("rider(-1, 0)", Check.NO_SUCH, () -> x.rider(-1, 0));
        Check.due("rider(0, 7)", Check.NO_SUCH, () -> x.rider(0, 7));
        x.sit(0, 1, 9);
        Check.due("his FARE goes with his SEAT", 2 + 10 + 9, () -> x.rider(0, 6));
    }

    private static void paying() {
        // Just in time: 5 seats and 5 seconds.
        TingDecks x = Check.bus("ride 10;rider 0 1 below 5;");
        Check.due("paid", 10, () -> x.paid(0, 0));
        // A NOTE takes three times as long.
        TingDecks y = Check.bus("ride 15;rider 0 1 below 0 note;");
        Check.due("paid with a NOTE", 15, () -> y.paid(0, 0));
        TingDecks z = Check.bus("ride 14;rider 0 1 below 0 note;");
        Check.due("a NOTE that is too slow", -1, () -> z.paid(0, 0));
        Check.due("missed", 1, () -> z.paid(0, 1));
        Check.due("paid(1, 0)", Check.NO_SUCH, () -> z.paid(1, 0));
        Check.due("paid(0, 3)", Check.NO_SUCH, () -> z.paid(0, 3));
        Check.due("paid(0, -1)", Check.NO_SUCH, () -> z.paid(0, -1));
    }

    private static void missing() {
        // He takes rider 0 till 10, when rider 1 has got off already: never asked.
        TingDecks x = Check.bus("ride 10 10;rider 0 2 below 0;rider 0 1 below 1;take 10;");
        Check.due("never asked: paid", -1, () -> x.paid(1, 0));
        Check.due("never asked: missed", 0, () -> x.paid(1, 1));
        Check.due("never asked: nth", -1, () -> x.paid(1, 2));
        // Rider 0 is missed in second 9, on SEAT 9; from there the other one is 9 away.
        TingDecks y = Check.bus("ride 10 20;rider 0 1 below 9;rider 1 2 below 0;");
        Check.due("missed", 1, () -> y.paid(0, 1));
        Check.due("then the next one", 10 + 9 + 5, () -> y.paid(1, 0));
        Check.due("the how manieth", 1, () -> y.paid(1, 2));
    }

    private static void picking() {
        // Of like ones the least; without a rule the nearest.
        TingDecks x = Check.bus("ride 99;rider 0 1 below 4;rider 0 1 below 2;rider 0 1 above 2;stair 0;"
                + "picks seat;picks 5;picks 0-near;picks deck*10-seat;");
        Check.due("nearest", 1, () -> x.ting(0));
        x.obey(0);
        Check.due("by seat", 0, () -> x.ting(0));
        Check.due("by seat, of like ones the least", 1, () -> x.ting(1));
        x.obey(1);
        Check.due("all alike", 0, () -> x.ting(0));
        x.obey(2);
        Check.due("near", 1, () -> x.ting(0));
        x.obey(3);
        Check.due("by deck", 2, () -> x.ting(0));
        // In second 10 it is at STOP 1: rider 0 has 1 STOP left, rider 1 2, who got on now.
        TingDecks y = Check.bus("ride 10 50 50;rider 0 2 below 1;rider 1 3 below 2;rider 0 3 below 0;take 10;"
                + "picks left;picks 0-left;picks new;picks fare;");
        Check.due("none: rider 2 first", 2, () -> y.ting(0));
        y.obey(0);
        Check.due("left: then rider 1", 1, () -> y.ting(1));
        y.obey(1);
        Check.due("0-left: rider 0 first", 0, () -> y.ting(0));
        y.obey(3);
        Check.due("fare: rider 2 first", 2, () -> y.ting(0));
        TingDecks z = Check.bus("ride 10 50 50;rider 0 3 below 9;rider 1 2 below 2;rider 0 3 below 0;take 10;"
                + "picks (left=2)*(new=1)*9+(left=3)*seat*0+(left=1)*5;");
        z.obey(0);
        // In second 0 all are alike, 0 pays in 19; then rider 2 has 2 STOPS left, rider 1 one.
        Check.due("left and new: rider 0 first", 0, () -> z.ting(0));
        Check.due("left and new: then rider 2", 2, () -> z.ting(1));
        y.obey(2);
        Check.due("new: then rider 2", 0, () -> y.ting(0));
        Check.due("new: of like ones the least", 2, () -> y.ting(1));
    }

    private static void ways() {
        TingDecks x = Check.bus("rider 0 1 below 3;rider 0 1 above 2;rider 0 1 below 9;step 4;stair 50;");
        int[][] due = {{0, 70, 24}, {70, 0, 94}, {24, 94, 0}};
        for (int a = 0; a < 3; a++) {
            for (int b = 0; b < 3; b++) {
                int from = a;
                int to = b;
                Check.due("way(" + a + ", " + b + ")", due[a][b], () -> x.way(from, to));
            }
        }
        Check.due("way(3, 0)", Check.NO_SUCH, () -> x.way(3, 0));
        Check.due("way(0, 3)", Check.NO_SUCH, () -> x.way(0, 3));
        Check.due("way(-1, 0)", Check.NO_SUCH, () -> x.way(-1, 0));
        x.sit(0, 1, 3);
        Check.due("way behind sit", 4, () -> x.way(0, 1));
    }

    private static void wheres() {
        TingDecks x = Check.bus(ORDINARY);
        int[] seconds = {0, 7, 8, 37, 38, 59, 60, 76, 77, 86, 87, 149, 150};
        int[] due = {3, 3, 12, 12, 12, 12, 0, 0, 5, 5, 5, 5, 5};
        for (int i = 0; i < seconds.length; i++) {
            int second = seconds[i];
            Check.due("where(" + second + ")", due[i], () -> x.where(second));
        }
        Check.due("where(-1)", Check.ILLEGAL, () -> x.where(-1));
        Check.due("where(151)", Check.ILLEGAL, () -> x.where(151));
        TingDecks y = Check.bus("ride 20 20;rider 1 2 above 3;");
        Check.due("ahead of all", 0, () -> y.where(19));
        Check.due("he goes", 13, () -> y.where(20));
    }

    private static void walking() {
        TingDecks x = Check.bus(ORDINARY);
        int[] due = {2, 85, 35, 30, 87, 1};
        for (int w = 0; w < due.length; w++) {
            int what = w;
            Check.due("walk(" + w + ")", due[w], () -> x.walk(what));
        }
        Check.due("walk(6)", Check.NO_SUCH, () -> x.walk(6));
        Check.due("walk(-1)", Check.NO_SUCH, () -> x.walk(-1));
        // By the STAIR to one he misses, then to one he takes.
        TingDecks y = Check.bus("ride 12 40;rider 0 1 above 0;rider 0 2 below 5;picks deck;stair 10;");
        y.obey(0);
        int[] dueOfY = {2, 52 - 30, 25, 5, 30, 0};
        for (int w = 0; w < dueOfY.length; w++) {
            int what = w;
            Check.due("walk(" + w + ") with a miss", dueOfY[w], () -> y.walk(what));
        }
        TingDecks z = new TingDecks();
        Check.due("nobody: waits", 60, () -> z.walk(1));
        Check.due("nobody: last paid", 0, () -> z.walk(4));
    }

    private static void tings() {
        TingDecks x = Check.bus(ORDINARY);
        int[] due = {0, 1, 3, 2};
        for (int i = 0; i < due.length; i++) {
            int nth = i;
            Check.due("ting(" + i + ")", due[i], () -> x.ting(nth));
        }
        Check.due("ting(4)", Check.NO_SUCH, () -> x.ting(4));
        Check.due("ting(-1)", Check.NO_SUCH, () -> x.ting(-1));
        // One who is missed between two others is no TING.
        TingDecks y = Check.bus("ride 6 60;rider 0 2 below 0;rider 0 1 below 1;rider 0 2 below 2;");
        Check.due("asked second", 1, () -> y.paid(1, 2));
        Check.due("missed", 1, () -> y.paid(1, 1));
        Check.due("ting(1)", 2, () -> y.ting(1));
        Check.due("ting(2)", Check.NO_SUCH, () -> y.ting(2));
    }
}
