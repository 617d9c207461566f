/** The sentences with a boundary under "==== 4." and in the promises 21 to 28. */
public final class HeadsEdgesTest {
    private static final String FOUR = "ride 60 40 50;rider 0 2 below 3;rider 0 3 above 2 note;"
            + "rider 1 2 below 5;rider 1 3 below 0 maybe 5;stair 10;";

    public static void main(String[] args) {
        flatFares();
        shortHops();
        askedAgain();
        hundredAtMost();
        counted();
        fitting();
        fittingAllTheWhile();
        gamesThere();
        couplesThatRest();
        weeks();
        draws();
        seedsThatWrap();
        theMostAndTheLeast();
        Check.end("HeadsEdgesTest");
    }

    // ------------------------------------------------------------------ promises 21 to 23

    private static void flatFares() {
        String s = "FLAT: the least FARE (0 to 99) which, the same of all, would let TAKEN be as much or more as it is; none";
        Run.of(s).is(0, "flat");
        Run.of(s, "ride 1;rider 0 1 below 0;fare 99;").is(0, "flat");
        Run.of(s, "rider 0 1 below 0;fare 0;").is(0, "flat").reads("rider 0 1 below 0;fare 1;").is(1, "flat");
        Run.of(s, "rider 0 1 below 0;fare 98;").is(98, "flat").reads("rider 0 1 below 0;fare 99;").is(99, "flat");
        // Two together: 7 is by 4, 8 by 4 too, 9 by 5.
        Run.of(s, "rider 0 1 below 0;rider 0 1 below 1;fare 3+seat;").is(4, "flat");
        Run.of(s, "rider 0 1 below 0;rider 0 1 below 2;fare 3+seat;").is(4, "flat");
        Run.of(s, "rider 0 1 below 0;rider 0 1 below 3;fare 3+seat;").is(5, "flat");
        // By his rule he takes 98 of both; were it the same of all, he would miss one of them.
        String both = "ride 20;rider 0 1 below 9;rider 0 1 below 0;picks fare;fare ";
        Run.of(s, both + "99-(seat=9);").is(99, "flat").call("obey 0").is(197, "count 9").is(-1, "flat").call("undo")
                .is(99, "flat");
        Run.of(s, both + "50-(seat=9);").call("obey 0").is(99, "count 9", "flat");
        Run.of(s, both + "51-(seat=9);").call("obey 0").is(101, "count 9").is(-1, "flat");
        // By a FARE of just 7 he looks for the one on SEAT 9 first, and takes nothing: it is 8.
        Run.of(s, "ride 10;rider 0 1 below 0;rider 0 1 below 1;rider 0 1 below 9;fare 6+2*seat;picks (fare=7)*seat;take 4;")
                .call("obey 0").is(14, "count 9").is(8, "flat");
        Run.of("it changes nothing", both + "51-(seat=9);").call("obey 0", "flat").is(101, "count 9")
                .is(50, "rider 0 6");
    }

    private static void shortHops() {
        String s = "FARES of those UNPAID who ride so many STOPS or fewer, together. IllegalArgumentException: not 0 to 12";
        Run.of(s, "ride 1 1 1;rider 0 1 below 0;rider 0 2 below 1;rider 0 3 below 2;").row("hops", 0, 2, 6, 12, 12)
                .is(12, "hops 12")
                .illegal("hops 13", "hops -1", "hops 2147483647", "hops -2147483648");
        Run.of(s).is(0, "hops 0", "hops 12").illegal("hops 13", "hops -1");
        String longest = "ride 1 1 1 1 1 1 1 1 1 1 1;rider 0 11 below 9;rider 0 10 below 8;";
        Run.of(s, longest + "take 60;").is(0, "hops 9").is(20, "hops 10").is(42, "hops 11", "hops 12");
        String t = "UNPAID is who didn't pay (MISSED, or never asked)";
        Run.of(t, "ride 10;rider 0 1 below 0;rider 0 1 below 9;").is(1, "paid 1 1").is(2, "hops 1");
        Run.of(t, "ride 10;rider 0 1 below 0;rider 0 1 below 9;take 10;").is(-1, "paid 1 2").is(2, "hops 1");
        Run.of(t, "ride 60;rider 0 1 below 0;rider 0 1 below 9;").is(0, "hops 1");
    }

    private static void askedAgain() {
        String s = "of each who has paid by the second in which the bus is there, and is THERE";
        // He pays in second 10, in which the bus is at STOP 1; or in 11.
        Run.of(s, "ride 10 10 10 10;rider 0 4 below 0;take 10;fade 7;").row("again", 0, 0, 7, 14, 0);
        Run.of(s, "ride 10 10 10 10;rider 0 4 below 0;take 9;fade 7;").row("again", 0, 7, 14, 21, 0);
        Run.of(s, "ride 10 10 10 10;rider 0 4 below 0;take 11;fade 7;").row("again", 0, 0, 7, 14, 0);
        // At TO he isn't THERE any more.
        Run.of(s, "ride 10 10 10 10;rider 0 3 below 0;fade 7;").row("again", 0, 7, 14, 0, 0);
        // Who didn't pay isn't asked again.
        Run.of(s, "ride 10 10 10 10;rider 0 4 below 0 note;take 14;fade 7;").row("again", 0, 0, 0, 0, 0);
        Run.of(s, "ride 10 10 10 10;rider 0 4 below 0;rider 0 4 below 1;rider 1 3 below 2;fade 5;")
                .row("again", 0, 5, 20, 25, 0);
        Run.of("the latest STOP at which the bus was as he had paid",
                "ride 10 10 10 10;rider 0 4 below 0;take 20;fade 7;").row("again", 0, 0, 0, 7, 0);
        Run.of("nobody").is(0, "again 0", "again 1").noSuch("again 2", "again -1");
    }

    private static void hundredAtMost() {
        String s = "FADE by how many STOPS ago that was, 100 at most: together";
        String text = "ride 10 10 10 10 10 10 10 10 10 10 10;rider 0 11 below 0;";
        Run.of(s, text + "fade 50;").row("again", 0, 50, 100, 100, 100);
        Run.of(s, text + "fade 49;").row("again", 0, 49, 98, 100, 100);
        Run.of(s, text + "fade 33;").row("again", 0, 33, 66, 99, 100);
        Run.of(s, text + "fade 34;").row("again", 0, 34, 68, 100, 100);
        Run.of(s, text).row("again", 0, 10, 20, 30, 40, 50, 60, 70, 80, 90, 100, 0);
        Run.of(s, text + "fade 0;").row("again", 0, 0, 0, 0);
        // Of each 100 at most, not of all.
        Run.of(s, text + "rider 0 11 below 1;take 4;fade 50;").row("again", 0, 100, 200, 200, 200);
    }

    // ------------------------------------------------------------------ promises 24 to 26

    private static void counted() {
        String s = "COUNTED (at most 8): so many (0 to 12) sat on a DECK";
        Run run = Run.of(s, FOUR).is(1, "head 0 0 0").is(2, "head 3 1 12").is(3, "head 0 1 1")
                .is(-1, "head 0 0 13", "head 0 0 -1", "head 0 2 0", "head 0 -1 0",
                "head 3 2147483647 0", "head 0 0 -2147483648", "head 0 -2147483648 12");
        run.is(7, "count 17").is(3, "count 13").is(4, "head 0 0 0").is(5, "head 0 0 0").is(6, "head 0 0 0")
                .is(7, "head 0 0 0").is(8, "head 0 0 0");
        run.is(-1, "head 0 0 0", "head 3 1 12").is(9, "count 17").is(8, "count 13")
                .is(0, "count 15", "count 16", "count 12");
        String t = "NoSuchElementException (ahead): no such STOP";
        run.noSuch("head 4 0 0", "head -1 2 13").is(9, "count 17");
        Run.of(t, FOUR).noSuch("head 4 2 13", "head -1 -1 -1", "head 4 0 0").is(0, "count 17", "count 13");
        String u = "All that is COUNTED is forgotten";
        run.call("forget").is(0, "count 13").is(16, "fits 0").is(1, "head 0 0 1").is(1, "count 13").is(9, "count 17");
        Run.of(u).call("forget", "forget").is(0, "count 13", "count 17").is(1, "head 1 1 0");
        Run.of("forgetting is no ACT", FOUR).call("head 0 0 1", "forget").is(-1, "undo");
    }

    private static void fitting() {
        String s = "FITS: how many (what 0), the least (1; NONE: none), those in all (2; 0 without)";
        Run.of(s).row("fits", 1, 0, 0).call("head 0 0 0").row("fits", 1, 0, 0).call("head 0 0 1").row("fits", 0, -1, 0);
        Run.of(s, FOUR).row("fits", 16, 0, 0).call("head 0 0 1").row("fits", 8, 0, 0).call("head 0 0 2")
                .row("fits", 0, -1, 0);
        // Both of STOP 0 sat above: rider 0 must have moved.
        Run.of(s, FOUR).call("head 0 1 2").row("fits", 4, 1, 1);
        Run.of(s, FOUR).call("head 0 1 0").row("fits", 4, 2, 2);
        Run.of(s, FOUR).call("head 0 0 0").row("fits", 4, 1, 1);
        Run.of(s, FOUR).call("head 1 0 0").row("fits", 1, 13, 13);
        Run.of(s, FOUR).call("head 1 1 0").row("fits", 1, 2, 2);
        Run.of(s, FOUR).call("head 1 0 4").row("fits", 1, 2, 2).call("head 1 1 0").row("fits", 1, 2, 2);
        Run.of(s, FOUR).call("head 1 0 5").row("fits", 0, -1, 0);
        // At the last STOP nobody is THERE.
        Run.of(s, FOUR).call("head 3 0 0", "head 3 1 0").row("fits", 16, 0, 0).call("head 3 0 1").row("fits", 0, -1, 0);
        Run.of(s, "ride 300;" + Run.riders(12, "")).row("fits", 4096, 0, 0).call("head 0 0 12")
                .row("fits", 1, 4032, 4032).call("head 0 1 12").row("fits", 0, -1, 0);
        Run.of(s, "ride 300;" + Run.riders(12, "")).call("head 0 1 12").row("fits", 1, 63, 63).call("head 0 0 0")
                .row("fits", 1, 63, 63);
        // All eight of them count.
        Run eight = Run.of(s, FOUR);
        for (int i = 0; i < 7; i++) {
            eight.call("head 0 0 1");
        }
        eight.row("fits", 8, 0, 0).call("head 0 0 2").row("fits", 0, -1, 0);
    }

    private static void fittingAllTheWhile() {
        String s = "sets of RIDERS who must have sat on the other DECK all the while";
        // He who moved for STOP 0 moved for STOP 1 as well.
        Run.of(s, "ride 9 9;rider 0 2 below 0;").call("head 0 1 1").row("fits", 1, 1, 1).call("head 1 0 1")
                .row("fits", 0, -1, 0);
        Run.of(s, "ride 9 9;rider 0 1 below 0;rider 1 2 below 0;").call("head 0 1 1", "head 1 0 1")
                .row("fits", 1, 1, 1);
        // On the other DECK than that on which he sits now.
        Run.of(s, "rider 0 1 below 0;").call("head 0 1 1").row("fits", 1, 1, 1).call("sit 0 1 0").row("fits", 1, 0, 0)
                .call("undo").row("fits", 1, 1, 1);
        Run.of("TENTHS don't matter", "rider 0 1 below 0 maybe 0;").call("head 0 0 1").row("fits", 1, 0, 0);
    }

    // ------------------------------------------------------------------ promise 27

    private static void gamesThere() {
        String s = "NoSuchElementException: also another what. IllegalArgumentException (behind that): he isn't THERE";
        Run.of(s, FOUR).illegal("game 2 0 0", "game 2 0 1", "game 0 2 0", "game 3 1 0")
                .noSuch("game 2 0 2", "game 0 2 -1", "game 4 0 2", "game 0 4 2", "game 4 0 0",
                "game 0 4 0", "game -1 0 0", "game 0 -1 0").is(0, "game 1 0 0").is(-1, "game 1 0 1");
        Run.of("THERE at FROM, not at TO", FOUR).is(1, "game 1 1 0").illegal("game 2 2 0").is(0, "game 2 1 0")
                .is(1, "game 2 3 0");
    }

    private static void couplesThatRest() {
        String s = "A couple RESTS, if neither would be better off by his other choice: how many; the first (10 by his DECK and the RIDER's)";
        // Alone: he wants to be where the RIDER is, who doesn't.
        Run.of(s, "rider 0 1 below 0;").row("game 0 0", 0, -1);
        Run.of(s, "rider 0 1 below 0;fare 0;").row("game 0 0", 4, 0);
        // Others below are worth less than the RIDER, as much, more.
        String others = "rider 0 1 below 0;rider 0 1 below 1;fare ";
        Run.of(s, others + "5-seat;").row("game 0 0", 0, -1);
        Run.of(s, others + "5;").row("game 0 0", 1, 1);
        Run.of(s, others + "5+seat;").row("game 0 0", 1, 1);
        String above = "rider 0 1 below 0;rider 0 1 above 1;fare ";
        Run.of(s, above + "5-seat;").row("game 0 0", 0, -1);
        Run.of(s, above + "5;").row("game 0 0", 1, 10);
        Run.of(s, above + "5+seat;").row("game 0 0", 1, 10);
        // On which DECK the RIDER himself sits doesn't matter.
        Run.of(s, above + "5;").row("game 0 1", 1, 1).call("sit 1 0 1").row("game 0 1", 1, 1).row("game 0 0", 1, 1);
        // He pays nothing: both DECKS are alike to him.
        Run.of(s, above + "seat;").row("game 0 0", 2, 10).row("game 0 1", 0, -1);
        Run.of(s, others + "seat;").row("game 0 0", 2, 0);
        Run.of(s, "rider 0 1 below 0;rider 0 1 below 1;rider 0 1 above 1;fare 5*(seat=1);").row("game 0 0", 4, 0)
                .row("game 0 1", 1, 10);
        // All others, but only who is THERE.
        Run.of(s, "ride 9 9;rider 0 2 below 0;rider 0 1 above 1;rider 1 2 below 1;fare 5;").row("game 0 0", 1, 10)
                .row("game 1 0", 1, 1);
        Run.of(s, "rider 0 1 below 0;rider 0 1 above 1;rider 0 1 above 2;fare 5-2*deck;").row("game 0 0", 1, 10)
                .reads(above + "5-2*deck;").row("game 0 0", 0, -1);
    }

    // ------------------------------------------------------------------ promise 28

    private static void weeks() {
        String s = "n DAYS (0 to 60): TAKEN (what 0), the most (1), the least (2) of a DAY (0 without)";
        Run.of(s, "rider 0 1 below 0;").row("week 5 0", 0, 0, 0).row("week 5 1", 2, 2, 2).row("week 5 60", 120, 2, 2);
        Run.of(s, "").row("week 5 60", 0, 0, 0);
        String t = "NoSuchElementException: another what. IllegalArgumentException (behind that): n";
        Run.of(t, FOUR).illegal("week 5 61 0", "week 5 -1 0", "week 5 61 2", "week 5 2147483647 0",
                "week 5 -2147483648 0")
                .noSuch("week 5 61 3", "week 5 -1 -1", "week 5 0 3", "week 5 60 -1");
        Run.of("TENTHS of 0: he never comes", "ride 300;rider 0 1 below 0 maybe 0;rider 0 1 below 1;")
                .row("week 5 10", 20, 2, 2);
        Run.of("TENTHS of 10: he always does", "ride 300;rider 0 1 below 0 maybe 10;").row("week 5 60", 120, 2, 2);
        Run.of("(else he isn't THERE that DAY)", "ride 10;rider 0 1 below 0 maybe 0;rider 0 1 below 5;fare seat;")
                .is(0, "count 9").row("week 7 3", 15, 5, 5);
        Run.of("(In all else but CHANCES all come)", "ride 10;rider 0 1 below 0 maybe 0;")
                .is(2, "count 9", "most 0", "two 0", "worth 0").is(5, "paid 0 0").is(1, "stop 0 2");
        Run.of("nothing stays of it", FOUR).call("week 5 60 0").is(16, "count 9").is(15, "count 11").is(0, "count 12");
    }

    private static int next(int seed) {
        return (int) ((seed * 1103515245L + 12345L) & 0xffffffffL);
    }

    private static int draw(int seed) {
        return (seed >> 16 & 32767) % 10;
    }

    private static void draws() {
        String s = "comes if a DRAW of 10 is below them";
        for (int tenths = 0; tenths <= 10; tenths++) {
            String text = "ride 300;rider 0 1 below 0 maybe " + tenths
                    + ";rider 0 1 below 1;rider 0 1 below 2 maybe 5;fare 1+seat*20;";
            Run run = Run.of(s, text);
            for (int seed = 0; seed < 12; seed++) {
                int drawn = seed;
                int sum = 0;
                for (int day = 0; day < 3; day++) {
                    // Each DAY each in order draws; who has TENTHS of 10 doesn't.
                    boolean comes = true;
                    if (tenths != 10) {
                        drawn = next(drawn);
                        comes = draw(drawn) < tenths;
                    }
                    drawn = next(drawn);
                    sum += (comes ? 1 : 0) + 21 + (draw(drawn) < 5 ? 41 : 0);
                }
                run.is(sum, "week " + seed + " 3 0");
            }
        }
    }

    private static void seedsThatWrap() {
        String s = "A seed becomes itself times 1103515245 and 12345 (an int that wraps)";
        Run run = Run.of(s, "ride 300;rider 0 1 below 0 maybe 3;");
        int[] seeds = {Integer.MIN_VALUE, Integer.MIN_VALUE + 1, -65536, -1, 0, 1, 65535, 65536, 1 << 30,
                Integer.MAX_VALUE};
        for (int seed : seeds) {
            int drawn = seed;
            int most = 0;
            int least = 2;
            int sum = 0;
            for (int day = 0; day < 60; day++) {
                drawn = next(drawn);
                int taken = draw(drawn) < 3 ? 2 : 0;
                sum += taken;
                most = Math.max(most, taken);
                least = Math.min(least, taken);
            }
            run.row("week " + seed + " 60", sum, most, least);
        }
    }

    private static void theMostAndTheLeast() {
        String s = "the most, the least of one";
        Run run = Run.of(s, "ride 300;rider 0 1 below 0 maybe 5;rider 0 1 below 1 maybe 5;fare 1+seat;");
        // So few DAYS that the first one, the second one, the last one is the most or the least.
        for (int seed = 0; seed < 40; seed++) {
            int drawn = seed;
            int most = 0;
            int least = 3;
            int sum = 0;
            for (int days = 1; days <= 4; days++) {
                drawn = next(drawn);
                int taken = draw(drawn) < 5 ? 1 : 0;
                drawn = next(drawn);
                taken += draw(drawn) < 5 ? 2 : 0;
                sum += taken;
                most = Math.max(most, taken);
                least = Math.min(least, taken);
                run.row("week " + seed + " " + days, sum, most, least);
            }
        }
    }
}
