/** The sentences with a boundary under "==== 5." and in the promises 29 to 38. */
public final class WalkEdgesTest {
    private static final String FOUR = "ride 60 40 50;rider 0 2 below 3;rider 0 3 above 2 note;"
            + "rider 1 2 below 5;rider 1 3 below 0 maybe 5;stair 10;picks 0-near;picks hops;";

    public static void main(String[] args) {
        byTheStair();
        secondsOfHisWalk();
        theLastWhoPaid();
        tings();
        soonest();
        soonestOfMany();
        dodging();
        dodgingAllElse();
        worths();
        paces();
        chances();
        eightAtMost();
        means();
        status();
        images();
        restored();
        Check.end("WalkEdgesTest");
    }

    // ------------------------------------------------------------------ promises 29 and 30

    private static void byTheStair() {
        String s = "how often he GOES by the STAIR (to one he MISSES too)";
        Run.of(s).is(0, "walk 0");
        Run.of(s, "ride 60;rider 0 1 below 9;").is(0, "walk 0");
        Run.of(s, "ride 60;rider 0 1 above 0;").is(1, "walk 0");
        Run.of(s, "ride 60;rider 0 1 above 0;rider 0 1 above 9;").is(1, "walk 0");
        Run.of(s, "ride 12 60;rider 0 1 above 0;").is(1, "walk 0", "paid 0 1").is(0, "walk 3", "walk 5");
        Run.of(s, "ride 12 60;rider 0 1 above 0;rider 1 2 below 0;").is(2, "walk 0");
        Run.of(s, "ride 60;rider 0 1 above 0;rider 0 1 below 0;rider 0 1 above 1;stair 1;picks deck;picks 0;")
                .is(1, "walk 0")
                .call("obey 0").is(2, "walk 0").call("obey 1").is(3, "walk 0");
    }

    private static void secondsOfHisWalk() {
        String s = "the seconds in which he waits with nobody to ask (till the last STOP), GOES, takes FARES";
        Run.of(s, FOUR).row("walk", 2, 85, 35, 30, 87, 1);
        Run.of(s).row("walk", 0, 60, 0, 0, 0, 0).call("hold 0 60").is(120, "walk 1").call("hold 1 60")
                .is(120, "walk 1");
        Run.of(s, "ride 5;rider 0 1 below 0;").row("walk", 0, 0, 0, 5, 5, 0);
        Run.of(s, "ride 6;rider 0 1 below 0;").row("walk", 0, 1, 0, 5, 5, 0);
        Run.of(s, "ride 4;rider 0 1 below 0;").row("walk", 0, 4, 0, 0, 0, 0);
        // He waits ahead of one, between two, and behind the last.
        Run.of(s, "ride 10 10 10;rider 1 2 below 1;rider 2 3 below 2;").row("walk", 0, 10 + 4 + 4, 2, 10, 26, 0);
        // To one whom he misses he GOES as well, but takes nothing of him.
        Run.of(s, "ride 10 10;rider 0 1 below 9;").row("walk", 0, 11, 9, 0, 0, 0);
        Run.of(s, "ride 15;rider 0 1 below 0 note;").is(15, "walk 3").is(0, "walk 1");
        // Someone else is there: he doesn't wait, though that one is MISSED.
        Run.of(s, "ride 9 9;rider 0 2 below 9;rider 0 1 below 0;picks 0;").call("obey 0").is(14, "paid 0 0")
                .is(4, "walk 1").is(9, "walk 2");
        Run.of("of the ride as it is now", FOUR).row("walk", 2, 85, 35, 30, 87, 1).call("hold 0 5")
                .row("walk", 2, 90, 35, 30, 92, 1)
                .call("obey 1").is(30, "walk 3").call("undo", "undo").row("walk", 2, 85, 35, 30, 87, 1);
        // A GO that would end behind the last STOP counts whole: only of waiting the document tells that end.
        Run.of(s, "ride 5;rider 0 1 below 9;").row("walk", 0, 0, 9, 0, 0, 0);
        // He comes to the one in the last STOP's second, just so.
        Run.of(s, "ride 9;rider 0 1 below 9;").row("walk", 0, 0, 9, 0, 0, 0);
    }

    private static void theLastWhoPaid() {
        String s = "the second in which the last one had paid (4; 0: none), how many paid above (5)";
        Run.of(s, "ride 4;rider 0 1 below 0;").is(0, "walk 4", "walk 5");
        Run.of(s, "ride 30;rider 0 1 below 0;rider 0 1 above 0;rider 0 1 above 9;").is(21, "walk 4").is(1, "walk 5");
        Run.of(s, "ride 60;rider 0 1 below 0;rider 0 1 above 0;rider 0 1 above 9;").is(35, "walk 4").is(2, "walk 5")
                .call("sit 0 1 1")
                .is(3, "walk 5").call("sit 2 0 9").is(2, "walk 5");
        // Who is MISSED above didn't pay; nor was he the last who had paid.
        Run.of(s, "ride 20;rider 0 1 below 0;rider 0 1 above 9;").is(5, "walk 4").is(0, "walk 5");
        Run.of(s, "ride 300;rider 0 1 below 1;rider 0 1 below 0;").is(11, "walk 4");
        Run.of(s, "ride 300;" + Run.riders(12, "")).is(6, "walk 5");
    }

    private static void tings() {
        String s = "TINGS: the i-th (0 on) who paid. NoSuchElementException: there is none";
        Run.of(s).noSuch("ting 0", "ting -1");
        Run.of(s, FOUR).row("ting", 0, 1, 3, 2).noSuch("ting 4", "ting -1", "ting 2147483647", "ting -2147483648");
        Run.of(s, "ride 4;rider 0 1 below 0;").noSuch("ting 0");
        // One who is MISSED between two others is no TING.
        Run.of(s, "ride 6 60;rider 0 2 below 0;rider 0 1 below 1;rider 0 2 below 2;").row("ting", 0, 2).noSuch("ting 2")
                .call("hold 0 10").row("ting", 0, 1, 2).noSuch("ting 3");
        Run all = Run.of(s, "ride 300;" + Run.riders(12, "")).noSuch("ting 12");
        for (int i = 0; i < 12; i++) {
            all.is(i, "ting " + i);
        }
    }

    // ------------------------------------------------------------------ promise 31

    private static void soonest() {
        String s = "THE SOONEST (0 of nobody); NONE: none";
        Run.of(s).is(0, "soonest 0").illegal("soonest 1", "soonest -1");
        Run run = Run.of(s, "ride 10 10;rider 0 1 below 9;rider 0 2 below 0;").is(0, "soonest 0")
                .is(-1, "soonest 1", "soonest 3").is(5, "soonest 2");
        run.illegal("soonest 4", "soonest 5", "soonest 7", "soonest -1", "soonest 2147483647", "soonest -2147483648",
                "soonest -2147483647");
        run.call("hold 0 3").is(-1, "soonest 1").call("hold 0 4").is(14, "soonest 1").is(-1, "soonest 3")
                .call("hold 0 7").is(-1, "soonest 3").call("hold 0 8").is(28, "soonest 3").call("hold 0 9")
                .is(19, "soonest 3");
        String t = "by any order of these alone";
        // On the way he asks nobody else; the order is the soonest one, by the rule or not.
        Run.of(t, "ride 99;rider 0 1 below 9;rider 0 1 below 1;rider 0 1 below 8;picks seat;").call("obey 0")
                .is(14, "soonest 1").is(19, "soonest 5", "soonest 3")
                .is(24, "soonest 7").is(18, "soonest 6");
        Run.of(t, "ride 13 40;rider 0 2 below 3;rider 0 1 below 8;").is(8, "soonest 1").is(13, "soonest 2")
                .is(23, "soonest 3");
        Run.of(t, "ride 12 40;rider 0 2 below 3;rider 0 1 below 8;").is(-1, "soonest 2", "soonest 3");
        String u = "(he may wait on a SEAT)";
        Run.of(u, "ride 10 10;rider 1 2 below 2;rider 0 2 below 0;").is(15, "soonest 1", "soonest 3")
                .is(5, "soonest 2");
    }

    private static void soonestOfMany() {
        String s = "at most 10 RIDERS there are, else SPENT";
        Run.of(s, "ride 300;" + Run.riders(10, "")).is(5, "soonest 1").is(5 + 5 + 11 + 3 + 50, "soonest 1023")
                .is(0, "soonest 0").illegal("soonest 1024");
        Run.of(s, "ride 300;" + Run.riders(11, "")).is(-2, "soonest 1", "soonest 2047", "soonest 0");
        Run.of(s, "ride 300;" + Run.riders(12, "")).is(-2, "soonest 1", "soonest 4095");
        String t = "bits of RIDERS that there aren't (ahead of SPENT)";
        Run.of(t, "ride 300;" + Run.riders(11, ""))
                .illegal("soonest 2048", "soonest 2049", "soonest -1", "soonest -2147483648");
        Run.of(t, "ride 300;" + Run.riders(12, "")).illegal("soonest 4096", "soonest -4096");
        Run.of(t, "ride 300;" + Run.riders(10, "")).reads("rider 0 1 below 0;").is(5, "soonest 1").illegal("soonest 2")
                .reads("ride 300;" + Run.riders(11, "")).is(-2, "soonest 1024").reads("ride 300;" + Run.riders(10, ""))
                .illegal("soonest 1024");
    }

    // ------------------------------------------------------------------ promises 32 to 34

    private static void dodging() {
        String s = "SEATS (10 by the DECK, and the SEAT) on which he would be UNPAID: how many; the least (NONE: none)";
        Run.of(s, "ride 10;rider 0 1 below 9;stair 99;").row("dodge 0", 14, 6);
        Run.of(s, "ride 9;rider 0 1 below 0;stair 99;").row("dodge 0", 15, 5);
        Run.of(s, "ride 300;rider 0 1 below 9;").row("dodge 0", 0, -1);
        Run.of(s, "ride 4;rider 0 1 below 9;").row("dodge 0", 20, 0);
        // All below pay, the STAIR alone is too long; only the last SEAT above is.
        Run.of(s, "ride 14;rider 0 1 below 9;stair 10;").row("dodge 0", 10, 10);
        Run.of(s, "ride 14;rider 0 1 below 9;stair 0;").row("dodge 0", 0, -1);
        Run.of(s, "ride 14;rider 0 1 below 9;stair 1;").row("dodge 0", 1, 19);
        String t = "on which nobody else sits for a RIDE that both have";
        Run.of(t, "ride 4 4 4;rider 0 1 below 9;rider 0 2 below 0;rider 1 3 below 1;rider 0 1 above 4;")
                .row("dodge 0", 18, 1);
        Run.of(t, "ride 4 4 4;rider 1 2 below 9;rider 0 1 below 0;rider 2 3 below 1;rider 0 3 below 2;")
                .row("dodge 0", 19, 0);
        Run.of(t, "ride 4;rider 0 1 below 9;rider 0 1 below 0;rider 0 1 below 1;").row("dodge 0", 18, 2)
                .call("sit 1 1 0").row("dodge 0", 18, 0);
        Run.of("it changes nothing", "ride 10;rider 0 1 below 5;stair 99;").call("dodge 0 0").is(5, "rider 0 3")
                .is(10, "paid 0 0").is(0, "count 12");
        Run.of("no such RIDER, what", "rider 0 1 below 5;")
                .noSuch("dodge 1 0", "dodge -1 1", "dodge 0 2", "dodge 0 -1", "dodge 1 2");
    }

    private static void dodgingAllElse() {
        String s = "all else as it is";
        // By the rule the other one is asked first, who is on SEAT 0: nowhere else is soon enough but on SEAT 0 above.
        Run.of(s, "ride 5;rider 0 1 below 9;rider 0 1 below 0;picks seat=0;stair 0;step 0;").call("obey 0")
                .row("dodge 0", 18, 1).row("dodge 1", 17, 1);
        // With the HOLD he pays everywhere.
        Run.of(s, "ride 10;rider 0 1 below 9;stair 10;").row("dodge 0", 14, 6).call("hold 0 14").row("dodge 0", 0, -1)
                .call("hold 0 13").row("dodge 0", 1, 19);
    }

    private static void worths() {
        String s = "TAKEN less what would be TAKEN, were he not THERE at all (below 0, if more would be TAKEN)";
        Run.of(s, "ride 10;rider 0 1 below 0;rider 0 1 below 9;fare 1+seat;").is(1, "worth 0").is(0, "worth 1");
        Run.of(s, "ride 20;rider 0 1 below 0;rider 0 1 below 9;fare 1+seat;").is(1, "worth 0").is(10, "worth 1");
        Run.of(s, "ride 14;rider 0 1 below 0;rider 0 1 below 9;fare 1+seat;").is(1, "count 9").is(-9, "worth 0")
                .is(0, "worth 1");
        // One whom he misses keeps him from another one.
        Run.of(s, "ride 20;rider 0 1 above 9;rider 0 1 below 0;stair 99;picks deck;").call("obey 0").is(-2, "worth 0")
                .is(0, "worth 1").call("obey -1").is(0, "worth 0").is(2, "worth 1");
        Run.of("it changes nothing", "ride 14;rider 0 1 below 0;rider 0 1 below 9;").call("worth 0").is(1, "count 11")
                .is(3, "stop 0 2");
        Run.of("no such RIDER", "rider 0 1 below 0;").is(2, "worth 0").noSuch("worth 1", "worth -1");
    }

    private static void paces() {
        String s = "PACE: the greatest TAKE (1 to 60) by which TAKEN would be as much as it is, or more";
        Run.of(s).is(60, "pace");
        Run.of(s, "ride 4;rider 0 1 below 0;").is(60, "pace");
        Run.of(s, "ride 60;rider 0 1 below 0;").is(60, "pace").reads("ride 59;rider 0 1 below 0;").is(59, "pace")
                .reads("ride 61;rider 0 1 below 0;").is(60, "pace");
        Run.of(s, "ride 1;rider 0 1 below 0;take 1;").is(1, "pace").reads("ride 2;rider 0 1 below 0;take 1;")
                .is(2, "pace");
        Run.of(s, "ride 180;rider 0 1 below 0 note;").is(60, "pace").reads("ride 179;rider 0 1 below 0 note;")
                .is(59, "pace");
        Run.of(s, "ride 5;rider 0 1 below 0;").is(5, "pace").call("hold 0 1").is(6, "pace");
        String t = "as much as it is, or more";
        Run.of(t, "ride 10 30;rider 0 1 below 0;rider 1 2 below 9;fare 1+9*(seat=9);take 30;").is(0, "count 9")
                .is(60, "pace");
        Run.of(t, "ride 20;rider 0 1 below 0;rider 0 1 below 9;fare 1+9*(seat=9);").is(11, "count 9").is(5, "pace");
        // Too slow for the first one (by 10 and more) he has time for the dear one (by 11 and less).
        Run.of(t, "ride 9 11;rider 0 1 below 0;rider 0 2 below 9;fare 1+9*(seat=9);take 9;").is(1, "count 9")
                .is(11, "pace");
        Run.of(t, "ride 9 11;rider 0 1 below 0;rider 0 2 below 9;fare 1+9*(seat=9);take 10;").is(10, "count 9")
                .is(11, "pace");
        Run.of("it changes nothing", "ride 60;rider 0 1 below 0;").call("pace").is(5, "count 6", "paid 0 0", "door 1");
    }

    // ------------------------------------------------------------------ promises 35 and 36

    private static void chances() {
        String s = "each RIDER with TENTHS below 10 and above 0 comes by so many tenths (TENTHS of 0: never)";
        int[] upper = {0, 1, 1, 3, 2, 1, 3, 7, 4, 9, 1};
        int[] lower = {1, 10, 5, 10, 5, 2, 5, 10, 5, 10, 1};
        for (int tenths = 0; tenths <= 10; tenths++) {
            Run.of(s, "rider 0 1 below 0 maybe " + tenths + ";").is(upper[tenths], "likely 0 0")
                    .is(lower[tenths], "likely 0 1");
            Run.of(s, "rider 0 1 below 0 maybe " + tenths + ";fare 1;").is(upper[tenths], "mean 0")
                    .is(lower[tenths], "mean 1");
        }
        String t = "how likely a RIDER pays, as a fraction in lowest terms";
        Run.of(t, "ride 4;rider 0 1 below 0 maybe 5;").row("likely 0", 0, 1).row("mean", 0, 1);
        Run.of(t, "rider 0 1 below 0;").row("likely 0", 1, 1).row("mean", 2, 1);
        // The second one pays if he comes and the first one does not; the third comes never.
        Run run = Run.of(t, "ride 10;rider 0 1 below 0 maybe 3;rider 0 1 below 1 maybe 5;rider 0 1 above 0 maybe 0;");
        run.row("likely 0", 3, 10).row("likely 1", 7, 20).row("likely 2", 0, 1).row("mean", 13, 10);
        run.call("hold 0 1").row("likely 1", 1, 2).row("mean", 8, 5).call("undo").row("likely 1", 7, 20)
                .row("mean", 13, 10);
        run.noSuch("likely 3 0", "likely -1 0", "likely 0 2", "likely 0 -1", "likely 3 2", "mean 2", "mean -1");
        run.is(2, "count 9").is(3, "count 1");
    }

    private static void eightAtMost() {
        String s = "(at most 8, the first of these; the others as 10)";
        Run eight = Run.of(s, "ride 300;" + Run.riders(8, " maybe 1"));
        Run nine = Run.of(s, "ride 300;" + Run.riders(9, " maybe 1"));
        Run twelve = Run.of(s, "ride 300;" + Run.riders(12, " maybe 1"));
        for (int i = 0; i < 12; i++) {
            if (i < 8) {
                eight.row("likely " + i, 1, 10);
            }
            if (i < 9) {
                nine.row("likely " + i, 1, i < 8 ? 10 : 1);
            }
            twelve.row("likely " + i, 1, i < 8 ? 10 : 1);
        }
        eight.row("mean", 8, 5);
        nine.row("mean", 18, 5);
        twelve.row("mean", 48, 5);
        // Who came surely on the bus ahead may come never on this one.
        Run.of(s, "rider 0 1 below 0;").row("likely 0", 1, 1).reads("rider 0 1 below 0 maybe 0;").row("likely 0", 0, 1)
                .reads("rider 0 1 below 0 maybe 5;").row("likely 0", 1, 2);
        // TENTHS of 0 and of 10 are none of the eight, and of 0 he comes never, also behind them.
        String mixed = "ride 300;rider 0 1 above 9 maybe 0;rider 0 1 above 8 maybe 10;";
        StringBuilder text = new StringBuilder(mixed);
        for (int i = 0; i < 9; i++) {
            text.append("rider 0 1 below ").append(i).append(" maybe 9;");
        }
        Run.of(s, text + "rider 0 1 below 9 maybe 0;").row("likely 0", 0, 1).row("likely 1", 1, 1)
                .row("likely 2", 9, 10).row("likely 9", 9, 10)
                .row("likely 10", 1, 1).row("likely 11", 0, 1).row("mean", 92, 5);
    }

    private static void means() {
        String s = "what is TAKEN in the mean";
        Run.of(s).row("mean", 0, 1);
        Run.of(s, "rider 0 1 below 0 maybe 1;fare 99;").row("mean", 99, 10);
        Run.of(s, "rider 0 1 below 0;fare 99;").row("mean", 99, 1);
        // Eight by 1 tenth each: all pay who come; or the last one doesn't, if all of them come.
        StringBuilder text = new StringBuilder("step 0;take 1;fare 99;");
        for (int i = 0; i < 8; i++) {
            text.append("rider 0 1 below ").append(i).append(" maybe 1;");
        }
        Run.of(s, "ride 8;" + text).row("mean", 396, 5).row("likely 7", 1, 10);
        Run.of(s, "ride 7;" + text).row("likely 7", 9999999, 100000000).row("likely 6", 1, 10)
                .row("mean", 7919999901L, 100000000);
    }

    private static void status() {
        String s = "STATUS: how many calls were refused: 0 of TEXTS with a FAULT, 1 of ACTS, 2 of what is COUNTED";
        Run run = Run.of(s, FOUR).refuses(1, "^?").is(1, "count 15").is(0, "count 16", "count 17");
        run.is(-1, "hold 0 61", "sit 0 2 0").is(0, "obey 7").is(1, "count 15").is(3, "count 16").is(0, "count 17");
        run.is(-1, "head 0 2 0").is(1, "count 15", "count 17").is(3, "count 16");
        // What throws, and what answers NONE or false without that, isn't counted.
        run.noSuch("hold 9 0", "sit 9 0 0", "head 9 0 0", "count 99", "compare 9")
                .illegal("bus 99", "where -1", "soonest 64").is(-1, "undo").is(0, "restore")
                .is(1, "count 15", "count 17").is(3, "count 16");
        // An image doesn't keep it, nor is it undone.
        run.call("image", "hold 0 61", "head 0 2 0").is(1, "restore").is(4, "count 16").is(2, "count 17")
                .call("hold 0 5", "hold 0 61", "undo").is(5, "count 16");
    }

    // ------------------------------------------------------------------ promises 37 and 38

    private static void images() {
        String s = "HOLDS, SEATS, the rule in force, ACTS and what is COUNTED are kept as an image, in place of another one";
        Run run = Run.of(s, FOUR)
                .call("hold 0 7", "hold 3 8", "sit 0 1 9", "obey 1", "head 1 0 2", "head 0 1 1", "image");
        run.call("hold 0 1", "hold 3 2", "sit 0 0 9", "sit 1 0 8", "obey 0", "forget", "head 0 0 0").is(0, "count 3");
        for (int i = 0; i < 3; i++) {
            run.is(1, "restore").is(7, "stop 0 1").is(8, "stop 3 1").is(1, "rider 0 2", "count 3").is(9, "rider 0 3")
                    .is(2, "rider 1 3", "count 13").is(4, "count 12");
            run.is(3, "undo").is(-1, "count 3").is(2, "undo").is(3, "rider 0 3").is(1, "undo")
                    .is(0, "stop 3 1", "undo", "stop 0 1").is(-1, "undo").call("forget");
        }
        run.call("hold 0 9", "image", "hold 0 10").is(1, "restore").is(9, "stop 0 1").is(1, "count 12")
                .is(0, "count 13");
        run = Run.of("whose HOLD or SEAT, and what was COUNTED where", FOUR)
                .call("hold 0 7", "sit 1 0 9", "hold 2 8", "head 0 1 2", "image");
        run.row("fits", 4, 3, 3)
                .call("undo", "undo", "undo", "sit 2 1 9", "hold 3 5", "sit 0 1 8", "obey 1", "forget", "head 1 0 2");
        run.is(1, "restore").row("fits", 4, 3, 3).is(2, "undo").is(0, "stop 2 1").is(1, "undo").is(12, "sit 1 1 3")
                .is(7, "stop 0 1").is(1, "undo").is(0, "undo", "stop 0 1");
        Run.of("an image of nothing", FOUR).call("image", "hold 0 5", "head 0 0 1").is(1, "restore")
                .is(0, "stop 0 1", "count 12", "count 13").is(-1, "undo");
        Run full = Run.of("forty ACTS and eight COUNTED are kept", FOUR);
        for (int i = 1; i <= 45; i++) {
            full.call("hold 0 " + i, "head 0 0 1");
        }
        full.call("image", "forget", "head 0 0 2");
        for (int i = 0; i < 45; i++) {
            full.call("obey 1");
        }
        full.is(1, "restore").is(40, "count 12").is(8, "count 13", "fits 0").is(45, "stop 0 1").is(39, "undo")
                .is(44, "stop 0 1");
        for (int i = 38; i >= 0; i--) {
            full.is(i, "undo").is(i + 5, "stop 0 1");
        }
        full.is(-1, "undo", "count 3");
    }

    private static void restored() {
        String s = "They are as the image again: true. False: there is none";
        Run.of(s).is(0, "restore").call("image").is(1, "restore", "restore");
        Run.of(s, FOUR).call("hold 0 5").is(0, "restore").is(5, "stop 0 1").is(1, "count 12");
        // A text with a FAULT leaves it, a BUS doesn't.
        Run.of(s, FOUR).call("hold 0 5", "image", "hold 0 6").refuses(1, "^?").is(1, "restore").is(5, "stop 0 1")
                .reads(FOUR).is(0, "restore", "stop 0 1");
        // What follows of them is as it was.
        Run.of(s, FOUR).call("obey 1", "sit 0 1 9", "image").is(1, "ting 0").call("obey -1", "sit 0 0 3")
                .is(0, "ting 0").is(1, "restore", "ting 0");
    }
}
