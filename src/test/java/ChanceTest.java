/** Promises 28, 32, 35 and 36: weeks by a seed, seats on which one dodges, chances. */
public final class ChanceTest {
    public static void main(String[] args) {
        weeks();
        weekOrder();
        dodging();
        chances();
        manyChances();
        Check.end("ChanceTest");
    }

    private static long nextSeed(long seed) {
        long next = (seed * 1103515245L + 12345L) & 0xffffffffL;
        return next;
    }

    private static void weeks() {
        // TENTHS of 10 draw nothing, TENTHS of 0 draw too but never come.
        TingDecks x = Check.bus("ride 300;rider 0 1 below 0 maybe 4;rider 0 1 below 1;rider 0 1 below 2 maybe 0;"
                + "rider 0 1 below 3 maybe 9;fare seat*seat+1;");
        int[] seeds = {0, 1, 5, -1, 123456789, Integer.MIN_VALUE};
        for (int seed : seeds) {
            for (int days = 0; days <= 60; days += 12) {
                long drawn = seed & 0xffffffffL;
                int sum = 0;
                int most = 0;
                int least = days == 0 ? 0 : Integer.MAX_VALUE;
                for (int day = 0; day < days; day++) {
                    int taken = 2;
                    drawn = nextSeed(drawn);
                    taken += drawn / 65536 % 32768 % 10 < 4 ? 1 : 0;
                    drawn = nextSeed(nextSeed(drawn));
                    taken += drawn / 65536 % 32768 % 10 < 9 ? 10 : 0;
                    sum += taken;
                    most = Math.max(most, taken);
                    least = Math.min(least, taken);
                }
                int n = days;
                int[] due = {sum, most, least};
                for (int what = 0; what < 3; what++) {
                    int w = what;
                    Check.due("week(" + seed + ", " + n + ", " + w + ")", due[w], () -> x.week(seed, n, w));
                }
            }
        }
        Check.due("week(5, 61, 0)", Check.ILLEGAL, () -> x.week(5, 61, 0));
        Check.due("week(5, -1, 0)", Check.ILLEGAL, () -> x.week(5, -1, 0));
        Check.due("week(5, 1, 3)", Check.NO_SUCH, () -> x.week(5, 1, 3));
        Check.due("week(5, 61, -1)", Check.NO_SUCH, () -> x.week(5, 61, -1));
        Check.due("nothing stays of a week: TAKEN", 1 + 2 + 5 + 10, () -> x.count(9));
    }

    private static void weekOrder() {
        // Who isn't there is not in the way of the other.
        TingDecks x = Check.bus("ride 10;rider 0 1 below 0 maybe 0;rider 0 1 below 5;fare seat;");
        Check.due("with him", 0, () -> x.count(9));
        Check.due("without him", 15, () -> x.week(7, 3, 0));
    }

    private static void dodging() {
        TingDecks x = Check.bus("ride 10;rider 0 1 below 9;stair 99;");
        Check.due("dodge(0, 0)", 14, () -> x.dodge(0, 0));
        Check.due("dodge(0, 1)", 6, () -> x.dodge(0, 1));
        Check.due("dodge(0, 2)", Check.NO_SUCH, () -> x.dodge(0, 2));
        Check.due("dodge(0, -1)", Check.NO_SUCH, () -> x.dodge(0, -1));
        Check.due("dodge(1, 0)", Check.NO_SUCH, () -> x.dodge(1, 0));
        Check.due("dodge(-1, 0)", Check.NO_SUCH, () -> x.dodge(-1, 0));
        Check.due("he sits as he did", 9, () -> x.rider(0, 3));
        TingDecks y = Check.bus("ride 300;rider 0 1 below 9;");
        Check.due("nowhere: how many", 0, () -> y.dodge(0, 0));
        Check.due("nowhere: the least", -1, () -> y.dodge(0, 1));
        // Rider 1 holds SEAT 0 and is asked first, so nowhere is soon enough.
        TingDecks z = Check.bus("ride 5;rider 0 1 below 9;rider 0 1 below 0;picks seat=0;stair 0;step 0;");
        z.obey(0);
        Check.due("but on his SEAT", 19 - 1, () -> z.dodge(0, 0));
        Check.due("the least", 1, () -> z.dodge(0, 1));
        // His FARE goes with the SEAT, and the rule looks at it: above he is asked first.
        TingDecks w = Check.bus("ride 5;rider 0 1 below 9;rider 0 1 below 0;fare 9*deck+1-seat/9;picks fare;stair 0;step 0;");
        w.obey(0);
        Check.due("below 9 alone", 1, () -> w.dodge(0, 0));
        Check.due("the least", 9, () -> w.dodge(0, 1));
    }

    private static void chances() {
        // Rider 1 pays if he comes and rider 0 does not.
        TingDecks x = Check.bus("ride 10;rider 0 1 below 0 maybe 3;rider 0 1 below 1 maybe 5;rider 0 1 above 0 maybe 0;");
        Check.due("likely(0, 0)", 3, () -> x.likely(0, 0));
        Check.due("likely(0, 1)", 10, () -> x.likely(0, 1));
        Check.due("likely(1, 0)", 7, () -> x.likely(1, 0));
        Check.due("likely(1, 1)", 20, () -> x.likely(1, 1));
        Check.due("likely(2, 0)", 0, () -> x.likely(2, 0));
        Check.due("likely(2, 1)", 1, () -> x.likely(2, 1));
        Check.due("mean(0)", 13, () -> x.mean(0));
        Check.due("mean(1)", 10, () -> x.mean(1));
        Check.due("likely(3, 0)", Check.NO_SUCH, () -> x.likely(3, 0));
        Check.due("likely(-1, 0)", Check.NO_SUCH, () -> x.likely(-1, 0));
        Check.due("likely(0, 2)", Check.NO_SUCH, () -> x.likely(0, 2));
        Check.due("likely(0, -1)", Check.NO_SUCH, () -> x.likely(0, -1));
        Check.due("mean(2)", Check.NO_SUCH, () -> x.mean(2));
        Check.due("mean(-1)", Check.NO_SUCH, () -> x.mean(-1));
        x.hold(0, 1);
        Check.due("likely(1, 0) with a HOLD", 1, () -> x.likely(1, 0));
        Check.due("likely(1, 1) with a HOLD", 2, () -> x.likely(1, 1));
        Check.due("mean(0) with a HOLD", 8, () -> x.mean(0));
        Check.due("mean(1) with a HOLD", 5, () -> x.mean(1));
        x.undo();
        Check.due("likely(1, 1) undone", 20, () -> x.likely(1, 1));
    }

    private static void manyChances() {
        // One who never comes, nine who may: the ninth of these counts as sure.
        StringBuilder s = new StringBuilder("ride 300;rider 0 1 above 9 maybe 0;");
        for (int i = 0; i < 9; i++) {
            s.append("rider 0 1 below ").append(i).append(" maybe ").append(i % 8 == 0 ? 1 : 5).append(';');
        }
        TingDecks x = Check.bus(s.toString());
        Check.due("never", 0, () -> x.likely(0, 0));
        Check.due("the first", 10, () -> x.likely(1, 1));
        Check.due("the eighth", 2, () -> x.likely(8, 1));
        Check.due("the ninth, upper", 1, () -> x.likely(9, 0));
        Check.due("the ninth, lower", 1, () -> x.likely(9, 1));
        // 2 * (1/10 + 7/2 + 1)
        Check.due("mean(0)", 46, () -> x.mean(0));
        Check.due("mean(1)", 5, () -> x.mean(1));
    }
}
