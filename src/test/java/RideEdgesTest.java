/** The sentences with a boundary under "==== 2." and in the promises 5 to 14. */
public final class RideEdgesTest {
    private static final String FOUR = "ride 60 40 50;rider 0 2 below 3;rider 0 3 above 2 note;"
            + "rider 1 2 below 5;rider 1 3 below 0 maybe 5;stair 10;picks 0-near;picks hops;";
    private static final int[] FAR = {Integer.MIN_VALUE, Integer.MIN_VALUE + 1, -33, -32, -2, 32, 33, 64, 4096,
            Integer.MAX_VALUE};

    public static void main(String[] args) {
        noSuchStop();
        noSuchRider();
        noSuchWhat();
        theBus();
        thereFromUntil();
        faresAreKept();
        theConductor();
        inTimeOrMissed();
        waitingAndTheEnd();
        stopsAgoAndOn();
        net();
        counts();
        wheres();
        holds();
        sits();
        sitsOfTwelve();
        obeys();
        undone();
        fortyActs();
        Check.end("RideEdgesTest");
    }

    // ------------------------------------------------------------------ as everywhere

    private static void noSuchStop() {
        String s = "NoSuchElementException: no such STOP (as everywhere)";
        String[] calls = {"stop # 0", "hold # 5", "bell # 0", "again #", "head # 0 0", "game # 1 0"};
        for (String call : calls) {
            Run run = Run.of(s, FOUR).noSuch(call.replace("#", "-1"), call.replace("#", "4"));
            for (int far : FAR) {
                run.noSuch(call.replace("#", "" + far));
            }
            run.is(0, "count 12", "count 13", "count 16", "count 17");
            // STOPS of a text with a FAULT, or of the bus ahead, are none.
            run.refuses(1, "ride 1 1 1 1 1;rider 0 5 below 0;^?").noSuch(call.replace("#", "4"));
            run.reads("rider 0 1 below 0;rider 0 1 below 1;").noSuch(call.replace("#", "2"));
        }
        Run.of(s, FOUR).is(150, "stop 3 0").is(0, "hold 3 5", "bell 3 0", "again 3").is(1, "head 3 0 0")
                .illegal("game 3 1 0");
    }

    private static void noSuchRider() {
        String s = "NoSuchElementException: no such RIDER (as everywhere)";
        String[] calls = {"rider # 0", "paid # 0", "way # 0", "way 0 #", "way # #", "sit # 0 9", "game 1 # 0",
                "dodge # 0", "worth #", "likely # 0"};
        for (String call : calls) {
            Run run = Run.of(s, FOUR).noSuch(call.replace("#", "-1"), call.replace("#", "4"));
            for (int far : FAR) {
                run.noSuch(call.replace("#", "" + far));
            }
            run.is(0, "count 12", "count 16");
            run.reads("rider 0 1 below 0;").noSuch(call.replace("#", "1")).reads("").noSuch(call.replace("#", "0"));
        }
        Run.of(s, FOUR).is(1, "rider 3 0").is(77, "paid 3 0").is(3, "way 0 3").is(15, "way 0 1")
                .is(0, "sit 3 0 9", "dodge 3 0").is(4, "worth 3")
                .is(1, "likely 3 0");
    }

    private static void noSuchWhat() {
        String s = "NoSuchElementException: another what";
        String[] calls = {"count", "stop 0", "rider 0", "paid 0", "most", "bell 0", "door", "two", "fits", "game 0 0",
                "week 5 1", "walk", "dodge 0",
            "likely 0", "mean"};
        int[] whats = {18, 4, 7, 3, 2, 2, 3, 2, 3, 2, 3, 6, 2, 2, 2};
        for (int i = 0; i < calls.length; i++) {
            Run run = Run.of(s, FOUR).noSuch(calls[i] + " -1", calls[i] + " " + whats[i]);
            for (int far : FAR) {
                run.noSuch(calls[i] + " " + far);
            }
            // All below it have an answer, which a call throws nothing for.
            for (int what = 0; what < whats[i]; what++) {
                run.call(calls[i] + " " + what);
            }
        }
    }

    // ------------------------------------------------------------------ the bus

    private static void theBus() {
        String s = "at each STOP so much later as RIDES and HOLDS ahead of it say";
        Run run = Run.of(s, "ride 1 300 7;").is(0, "stop 0 0").is(1, "stop 1 0").is(301, "stop 2 0")
                .is(308, "stop 3 0");
        run.call("hold 3 60").is(308, "stop 3 0").is(60, "stop 3 1");
        run.call("hold 2 60").is(301, "stop 2 0").is(368, "stop 3 0");
        run.call("hold 0 60").is(0, "stop 0 0").is(61, "stop 1 0").is(361, "stop 2 0").is(428, "stop 3 0");
        run.call("hold 0 0").is(1, "stop 1 0").is(368, "stop 3 0");
        Run longest = Run.of(s, "ride 300 300 300 300 300 300 300 300 300 300 300;");
        for (int stop = 0; stop < 12; stop++) {
            longest.is(0, "stop " + stop + " 1").call("hold " + stop + " 60");
        }
        longest.is(3960, "stop 11 0").is(0, "where 3960").illegal("where 3961").is(3960, "walk 1").is(-72, "count 10");
    }

    private static void thereFromUntil() {
        String s = "A RIDER is THERE from the second in which it is at FROM until it is at TO (not in that one any more)";
        Run.of(s, "ride 9 9 9 9;rider 1 3 below 0;").is(0, "stop 0 2").is(1, "stop 1 2", "stop 2 2")
                .is(0, "stop 3 2", "stop 4 2")
                .is(0, "stop 0 3").is(1, "stop 1 3").is(0, "stop 2 3", "stop 3 3", "stop 4 3")
                .illegal("game 0 0 0").is(0, "game 1 0 0", "game 2 0 0").illegal("game 3 0 0", "game 4 0 0");
        // He is free in second 9, and asks the other one; in second 10 that one has got off.
        Run.of(s, "ride 10 10;rider 0 2 below 0;rider 0 1 below 1;take 9;").is(1, "paid 1 2", "paid 1 1");
        Run.of(s, "ride 10 10;rider 0 2 below 0;rider 0 1 below 1;take 10;").is(-1, "paid 1 2").is(0, "paid 1 1");
        // He is free in second 10, in which the other one gets on; in second 9 he waits for him.
        Run.of(s, "ride 10 11;rider 0 2 below 0;rider 1 2 below 1;take 10;").is(21, "paid 1 0").is(0, "walk 1");
        Run.of(s, "ride 10 10;rider 0 2 below 0;rider 1 2 below 1;take 9;").is(20, "paid 1 0").is(1, "walk 1");
        // Twelve of them, all THERE.
        Run.of(s, "ride 9 9;" + Run.riders(12, "")).is(4095, "stop 0 2", "stop 0 3")
                .is(0, "stop 1 2", "stop 2 2", "stop 1 3");
    }

    private static void faresAreKept() {
        String s = "His FARE is what its rule gives (kept to 0 to 99; without one twice 'hops')";
        Run.of(s, "rider 0 1 below 0;fare 99;").is(99, "rider 0 6", "count 9");
        Run.of(s, "rider 0 1 below 0;fare 100;").is(99, "rider 0 6", "count 9");
        Run.of(s, "rider 0 1 below 0;fare 98;").is(98, "rider 0 6");
        Run.of(s, "rider 0 1 below 0;fare 0;").is(0, "rider 0 6", "count 9").is(5, "paid 0 0").is(1, "count 11");
        Run.of(s, "rider 0 1 below 0;fare 0-1;").is(0, "rider 0 6", "count 9");
        Run.of(s, "rider 0 1 below 0;fare 8192*8192*32;").is(0, "rider 0 6");
        Run.of(s, "ride 9 9 9 9 9 9 9 9 9 9 9;rider 0 11 below 0;rider 3 4 below 1;").is(22, "rider 0 6")
                .is(2, "rider 1 6");
        // The one of the bus ahead, or of a text with a FAULT, is no rule of this one.
        Run.of(s, "fare 7;").refuses(1, "fare 8;^?").reads("rider 0 1 below 0;").is(2, "rider 0 6");
        // What PICKS see is kept to it as well.
        Run.of(s, "rider 0 1 below 9;rider 0 1 below 0;fare 0-1;picks (fare<0)*seat;take 20;").call("obey 0")
                .is(0, "paid 0 2")
                .reads("rider 0 1 below 0;rider 0 1 below 9;fare 9999;picks (99<fare)*seat;").call("obey 0")
                .is(0, "paid 0 2");
    }

    // ------------------------------------------------------------------ the conductor

    private static void theConductor() {
        String s = "THE CONDUCTOR is below on SEAT 0 in second 0";
        Run.of(s, "rider 0 1 below 0;").is(5, "paid 0 0").is(0, "walk 0", "walk 2");
        Run.of(s, "rider 0 1 above 0;").is(16, "paid 0 0").is(1, "walk 0").is(11, "walk 2");
        String t = "To GO from one SEAT to another one";
        Run.of(t, "rider 0 1 below 9;rider 0 1 below 0;step 0;stair 0;").is(0, "way 0 1", "way 1 0", "way 0 0");
        Run.of(t, "rider 0 1 below 9;rider 0 1 above 9;rider 0 1 above 0;step 9;stair 99;")
                .is(261, "way 0 1", "way 1 0")
                .is(180, "way 0 2", "way 2 0").is(81, "way 1 2", "way 2 1").is(0, "way 1 1");
        Run.of(t, "rider 0 1 below 4;rider 0 1 above 4;step 0;").is(11, "way 0 1").is(0, "way 0 0");
        Run.of(t, "rider 0 1 below 4;rider 0 1 above 4;stair 0;").is(8, "way 0 1");
        String u = "the rule in force gives most (without one: the nearest), of like ones the least";
        String three = "ride 99;rider 0 1 below 4;rider 0 1 below 3;rider 0 1 above 3;stair 0;";
        Run.of(u, three).is(1, "ting 0").is(0, "ting 1").is(2, "ting 2");
        Run.of(u, "ride 99;rider 0 1 above 3;rider 0 1 below 3;stair 0;").is(0, "ting 0");
        Run.of(u, "ride 99;rider 0 1 above 3;rider 0 1 below 3;stair 1;").is(1, "ting 0");
        Run.of(u, three + "picks 7;picks 0-seat;picks seat;picks 0;").row("ting", 1, 0, 2).call("obey 0")
                .row("ting", 0, 1, 2)
                .call("obey 1").row("ting", 1, 2, 0).call("obey 2").row("ting", 0, 1, 2).call("obey -1")
                .row("ting", 1, 0, 2);
        // What a rule gives is an int, the least one too.
        Run.of(u, "ride 99;rider 0 1 below 0;rider 0 1 below 1;picks 8192*8192*32;picks 8192*8192*32-seat;picks 8192*8192*32+seat;")
                .call("obey 0").is(0, "ting 0").call("obey 1").is(1, "ting 0").call("obey 2").is(1, "ting 0");
    }

    private static void inTimeOrMissed() {
        String s = "if he could take the FARE by the second in which the bus is at TO, he does, else that one is MISSED";
        Run.of(s, "ride 10;rider 0 1 below 5;").is(10, "paid 0 0").is(0, "paid 0 1", "paid 0 2").is(2, "count 9")
                .is(1, "count 11");
        Run.of(s, "ride 9;rider 0 1 below 5;").is(-1, "paid 0 0").is(1, "paid 0 1")
                .is(0, "paid 0 2", "count 9", "count 11");
        // HOLDS ahead of TO give him time, that at TO doesn't.
        Run.of(s, "ride 9 9;rider 0 1 below 5;").call("hold 1 60").is(-1, "paid 0 0").call("hold 0 1")
                .is(10, "paid 0 0");
        String t = "TAKE, of who has a NOTE three times that";
        Run.of(t, "ride 15;rider 0 1 below 0 note;").is(15, "paid 0 0", "walk 3");
        Run.of(t, "ride 14;rider 0 1 below 0 note;").is(-1, "paid 0 0").is(0, "walk 3");
        Run.of(t, "ride 180;rider 0 1 below 0 note;take 60;").is(180, "paid 0 0");
        Run.of(t, "ride 3;rider 0 1 below 0 note;take 1;").is(3, "paid 0 0");
        String u = "and he picks again at once, there";
        // Missed in second 9 on SEAT 9; the next one is 1 from there.
        Run.of(u, "ride 10 20;rider 0 1 below 9;rider 0 2 below 8;picks seat;").call("obey 0").is(1, "paid 0 1")
                .is(15, "paid 1 0")
                .is(1, "paid 1 2").is(8, "where 9").is(9, "where 8");
        // In a second in which the bus is at a STOP already, for which he was too late.
        Run.of(u, "ride 5 20;rider 0 1 below 9;rider 1 2 below 9;").is(1, "paid 0 1").is(14, "paid 1 0")
                .is(9, "where 5", "where 9", "where 25");
        // Nobody is asked twice: who was MISSED is there still, but he waits.
        Run.of(u, "ride 10 10;rider 0 2 below 0 note;take 7;").is(1, "paid 0 1").is(0, "paid 0 2").is(20, "walk 1");
        String w = "the how manieth he was asked (NONE: never)";
        Run.of(w, "ride 6 60;rider 0 2 below 0;rider 0 1 below 1;rider 0 2 below 2;rider 1 2 below 3;")
                .is(0, "paid 0 2").is(1, "paid 1 2")
                .is(2, "paid 2 2").is(3, "paid 3 2").is(1, "paid 1 1").is(0, "paid 0 1", "paid 2 1");
    }

    private static void waitingAndTheEnd() {
        String s = "Is nobody THERE who hasn't been asked, he waits for the next STOP";
        Run.of(s, "ride 10 10 10;rider 1 2 below 0;rider 2 3 below 0;").is(15, "paid 0 0").is(25, "paid 1 0")
                .is(20, "walk 1");
        String t = "At the last STOP it is over";
        // He is free in the last STOP's second, one ahead of it, one behind it.
        Run.of(t, "ride 10;rider 0 1 below 0;rider 0 1 below 1;take 10;").is(10, "paid 0 0").is(-1, "paid 1 2")
                .is(0, "where 10", "walk 1", "walk 2");
        Run.of(t, "ride 10;rider 0 1 below 0;rider 0 1 below 1;take 9;").is(9, "paid 0 0")
                .is(1, "paid 1 2", "paid 1 1", "where 9", "where 10").is(0, "where 8");
        Run.of(t, "ride 10;rider 0 1 below 9;rider 0 1 above 9;take 9;").is(0, "paid 0 2").is(1, "paid 1 2", "paid 0 1")
                .is(19, "where 10").is(0, "walk 1");
        // Going to one whom he misses he comes too late for all others.
        Run.of(t, "ride 10;rider 0 1 above 0;rider 0 1 below 0;stair 10;picks deck;").call("obey 0").is(1, "paid 0 1")
                .is(-1, "paid 1 2").is(0, "paid 1 1");
        Run.of(t, "ride 10;rider 0 1 above 0;rider 0 1 below 0;stair 9;picks deck;").call("obey 0")
                .is(1, "paid 0 1", "paid 1 2", "paid 1 1");
        // HOLD there gives nobody time.
        Run.of(t, "ride 10;rider 0 1 below 0;rider 0 1 below 1;take 10;").call("hold 1 60").is(-1, "paid 1 2")
                .is(10, "stop 1 0").illegal("where 11");
    }

    private static void stopsAgoAndOn() {
        String s = "A STOP ago or on: by the latest STOP at which the bus was, in a second in which it is at one that one";
        String text = "ride 10 50 50;rider 0 3 below 0;rider 0 2 below 1;rider 0 3 below 2;"
                + "picks (left=2)*(seat+1)+(left=3)*(3-seat);take ";
        // In second 9 rider 2 has three STOPS left, in second 10 two.
        Run.of(s, text + "9;").call("obey 0").is(0, "ting 0").is(1, "paid 1 2");
        Run.of(s, text + "10;").call("obey 0").is(0, "ting 0").is(1, "paid 2 2");
        String ago = "ride 10 50 50;rider 0 3 below 0;rider 0 3 below 1;rider 0 3 below 2;picks (new=1)*seat-(new=0)*seat;take ";
        Run.of(s, ago + "9;").call("obey 0").is(0, "ting 0").is(1, "paid 1 2");
        Run.of(s, ago + "10;").call("obey 0").is(0, "ting 0").is(1, "paid 2 2");
        // Who gets on in this second did so no STOP ago.
        Run.of(s, "ride 10 50 50;rider 1 3 below 0;rider 1 3 below 1;picks (new=0)*seat;").call("obey 0")
                .is(1, "ting 0");
        Run.of(s, "ride 10 50 50;rider 1 3 below 0;rider 1 2 below 1;picks left=1;").call("obey 0").is(1, "ting 0");
        // While the bus waits it is past that STOP for nobody.
        Run.of(s, "ride 10 50 50;rider 0 3 below 0;rider 0 2 below 1;rider 0 3 below 2;take 60;"
                + "picks (left=2)*(seat+1)+(left=3)*(3-seat);").call("hold 0 60", "obey 0").is(0, "ting 0")
                        .is(1, "paid 1 2");
    }

    private static void net() {
        String s = "NET: TAKEN less LATE by all HOLDS, by 60, cut down";
        Run run = Run.of(s, "ride 60 60;rider 0 1 below 0;").is(2, "count 10");
        run.call("hold 0 9").is(2, "count 10").call("hold 0 10").is(1, "count 10").call("hold 0 19").is(1, "count 10")
                .call("hold 0 20").is(0, "count 10");
        run.call("hold 0 29").is(0, "count 10").call("hold 0 30").is(-1, "count 10").is(2, "count 9");
        run.call("hold 0 0", "hold 1 9").is(2, "count 10").call("hold 2 1").is(1, "count 10").call("hold 2 0")
                .is(2, "count 10");
        Run.of(s, "ride 60;rider 0 1 below 0;late 0;").call("hold 0 60", "hold 1 60").is(2, "count 10");
        Run.of(s, "ride 60;rider 0 1 below 0;late 99;").call("hold 0 60", "hold 1 60").is(2 - 198, "count 10");
        Run.of(s, "ride 60;rider 0 1 below 0;late 1;").call("hold 0 59").is(2, "count 10").call("hold 0 60")
                .is(1, "count 10");
    }

    // ------------------------------------------------------------------ promises 5 to 10

    private static void counts() {
        String s = "count: 0 to 17";
        Run run = Run.of(s, FOUR + "step 2;take 7;late 8;fade 3;")
                .call("obey 1", "hold 0 60", "head 0 0 1", "hold 0 61", "head 0 2 0", "head 0 0 13")
                .refuses(1, "^?").refuses(1, "^?").refuses(1, "^?").feeds("x");
        run.row("count", 4, 4, 2, 1, 2, 10, 7, 8, 3).is(2, "count 12").is(1, "count 13").is(20, "count 14")
                .is(3, "count 15").is(1, "count 16").is(2, "count 17");
        String t = "9 TAKEN, 10 NET, 11 who paid (bits)";
        Run.of(t, "ride 10;rider 0 1 below 9;rider 0 1 below 0;").is(2, "count 9", "count 10", "count 11");
        Run.of(t, "ride 10;rider 0 1 below 0;rider 0 1 below 9;").is(2, "count 9").is(1, "count 11");
        Run.of(t, "ride 1;rider 0 1 below 0;").is(0, "count 9", "count 10", "count 11").call("hold 0 60")
                .is(2, "count 9").is(-4, "count 10").is(1, "count 11");
        Run.of(t, "ride 300;fare 99;" + Run.riders(12, "")).is(1188, "count 9").is(4095, "count 11");
    }

    private static void wheres() {
        String s = "where he goes, as long as he GOES to it";
        // Rider 0 on SEAT 3 pays in 3 to 8; then above SEAT 2 in 8 to 38.
        Run run = Run.of(s, FOUR).is(3, "where 0", "where 2", "where 3", "where 7")
                .is(12, "where 8", "where 22", "where 23", "where 38", "where 59")
                .is(0, "where 60", "where 71", "where 76").is(5, "where 77", "where 87", "where 149", "where 150");
        String t = "IllegalArgumentException: below 0, or behind the last STOP's";
        run.illegal("where -1", "where 151", "where -2147483648", "where 2147483647");
        run.call("hold 2 60").is(5, "where 210").illegal("where 211").call("hold 3 60").illegal("where 211")
                .call("undo", "undo").illegal("where 151");
        Run.of(t).is(0, "where 0", "where 60").illegal("where 61", "where -1");
        Run.of(t, "ride 1;rider 0 1 above 9;").is(19, "where 0", "where 1").illegal("where 2");
        // Ahead of the first pick he is on SEAT 0.
        Run.of(s, "ride 20 20;rider 1 2 above 3;").is(0, "where 0", "where 19").is(13, "where 20", "where 40");
        // In one second he picks more than one: the last of them is where he goes.
        Run.of(s, "ride 4 20;rider 0 1 below 0;rider 0 1 above 0;rider 0 2 below 9;step 0;stair 0;")
                .is(9, "where 0", "where 24").is(2, "paid 2 2");
    }

    // ------------------------------------------------------------------ promises 11 to 14

    private static void holds() {
        String s = "a HOLD: as it was. NONE (STATUS 1): not 0 to 60";
        Run run = Run.of(s, FOUR).is(0, "hold 0 60").is(60, "hold 0 0").is(0, "hold 0 1").is(1, "hold 0 59")
                .is(59, "stop 0 1").is(4, "count 12");
        run.is(-1, "hold 0 61", "hold 0 -1", "hold 3 2147483647", "hold 3 -2147483648").is(4, "count 12", "count 16")
                .is(59, "stop 0 1").is(0, "stop 3 1");
        run.noSuch("hold 4 61", "hold -1 -1", "hold 4 5").is(4, "count 12", "count 16").is(0, "count 15", "count 17");
        run.is(0, "hold 3 60").is(60, "stop 3 1").is(59, "stop 0 1").is(5, "count 12");
        Run.of("a HOLD that stays as it is, is an ACT", FOUR).is(0, "hold 1 0").is(1, "count 12")
                .is(0, "undo", "stop 1 1");
    }

    private static void sits() {
        String s = "a RIDER sits down elsewhere: 10 by the DECK, and the SEAT, as they were";
        Run.of(s, FOUR).is(3, "sit 0 1 9").is(19, "sit 0 1 0").is(10, "sit 0 0 9").is(9, "sit 0 0 6")
                .is(12, "sit 1 0 9").is(9, "sit 1 1 9");
        String t = "NONE (STATUS 1): no such ones, somebody sits there";
        Run run = Run.of(t, FOUR)
                .is(-1, "sit 0 2 0", "sit 0 -1 0", "sit 0 0 10", "sit 0 1 10", "sit 0 0 -1", "sit 0 1 -10",
                "sit 0 -1 15", "sit 0 2 -5",
                "sit 0 2147483647 0", "sit 0 -2147483648 9", "sit 0 0 2147483647", "sit 0 0 -2147483648");
        run.is(12, "count 16").is(0, "count 12", "rider 0 2").is(3, "rider 0 3");
        run.noSuch("sit 4 2 10", "sit -1 0 0", "sit 4 0 9").is(12, "count 16")
                .is(0, "count 12", "count 15", "count 17");
        run.is(-1, "sit 0 0 5", "sit 2 0 3", "sit 2 1 2", "sit 1 0 0").is(16, "count 16").is(0, "count 12");
        sitsForARide();
    }

    private static void sitsForARide() {
        String s = "on which nobody else sits for a RIDE that both have";
        String stops = "ride 9 9 9 9;rider 1 3 below 4;rider ";
        String[] meeting = {"0 4", "0 2", "1 2", "1 3", "2 3", "2 4", "1 4", "0 3"};
        for (String ride : meeting) {
            Run.of(s, stops + ride + " above 0;").is(-1, "sit 1 0 4", "sit 0 1 0").is(2, "count 16").is(0, "count 12")
                    .is(10, "sit 1 0 3");
        }
        String[] apart = {"0 1", "3 4"};
        for (String ride : apart) {
            Run.of(s, stops + ride + " above 0;").is(10, "sit 1 0 4").is(4, "sit 1 1 0").is(4, "sit 0 1 0")
                    .is(0, "count 16").is(3, "count 12");
        }
        // Nobody else sits on his own SEAT.
        Run.of(s, stops + "0 4 above 0;").is(4, "sit 0 0 4").is(1, "count 12").is(0, "count 16");
        // A SEAT that somebody has left is free, one on which he sits now is not; undone it is as it was.
        Run.of(s, stops + "0 4 above 0;").is(4, "sit 0 0 5").is(10, "sit 1 0 4").is(-1, "sit 0 0 4").is(1, "undo")
                .is(5, "sit 0 0 4").is(-1, "sit 1 0 4");
    }

    private static void sitsOfTwelve() {
        String s = "of twelve RIDERS";
        Run run = Run.of(s, "ride 9 9;" + Run.riders(12, ""));
        for (int i = 0; i < 12; i++) {
            int own = i < 6 ? i : 4 + i;
            int next = (i + 1) % 12;
            run.is(-1, "sit " + i + (next < 6 ? " 0 " : " 1 ") + next % 6).is(own, "sit " + i + " 1 9")
                    .is(19, "sit " + i + (i < 6 ? " 0 " : " 1 ") + i % 6);
        }
        run.is(12, "count 16").is(24, "count 12");
    }

    private static void obeys() {
        String s = "the rule in force (NONE: none): true. False (STATUS 1): there is no such one";
        Run run = Run.of(s, FOUR).is(-1, "count 3").is(1, "obey 0").is(0, "count 3").is(1, "obey 1").is(1, "count 3")
                .is(0, "obey 2", "obey -2",
                "obey 2147483647", "obey -2147483648").is(1, "count 3").is(4, "count 16").is(2, "count 12")
                        .is(1, "obey -1").is(-1, "count 3").is(3, "count 12");
        run.is(1, "obey -1").is(4, "count 12", "count 16").is(0, "count 15", "count 17");
        Run.of(s).is(0, "obey 0", "obey 4").is(2, "count 16").is(1, "obey -1", "count 12");
        Run.of(s, "picks 1;picks 1;picks 1;picks 1;").is(1, "obey 3").is(0, "obey 4").is(3, "count 3");
        // PICKS of the bus ahead, or of a text with a FAULT, are none.
        Run.of(s, "picks 1;picks 1;").refuses(1, "picks 1;picks 1;picks 1;^?").is(0, "obey 2").reads("picks 1;")
                .is(0, "obey 1").is(1, "obey 0");
    }

    private static void undone() {
        String s = "The last ACT is UNDONE: how many are left. NONE: there is none";
        Run.of(s).is(-1, "undo", "undo").is(0, "count 12", "count 16");
        Run run = Run.of(s, FOUR).is(-1, "undo")
                .call("hold 0 7", "sit 0 1 9", "obey 1", "hold 0 8", "obey 0", "sit 0 0 9").is(6, "count 12");
        run.is(5, "undo").is(1, "rider 0 2").is(9, "rider 0 3").is(4, "undo").is(1, "count 3").is(3, "undo")
                .is(7, "stop 0 1").is(67, "stop 1 0");
        run.is(2, "undo").is(-1, "count 3").is(1, "undo").is(0, "rider 0 2").is(3, "rider 0 3")
                .is(0, "undo", "stop 0 1").is(-1, "undo").is(0, "count 12", "count 16");
        // What was refused is no ACT, nor what is COUNTED, an image, a question.
        run = Run.of(s, FOUR)
                .call("hold 0 7", "hold 0 61", "sit 0 0 5", "obey 9", "head 0 0 1", "image", "bell 0 0", "dodge 0 0",
                "forget");
        run.is(1, "count 12").is(0, "undo", "stop 0 1").is(-1, "undo");
        Run.of("what is undone is no ACT that can be undone", FOUR).call("hold 0 7", "undo").is(-1, "undo")
                .is(0, "stop 0 1");
    }

    private static void fortyActs() {
        String s = "ACTS (at most 40 are kept, the latest ones)";
        for (int acts : new int[] {39, 40, 41, 60}) {
            Run run = Run.of(s, FOUR);
            for (int i = 1; i <= acts; i++) {
                run.is(i - 1, "hold 1 " + i).is(Math.min(i, 40), "count 12");
            }
            int kept = Math.min(acts, 40);
            for (int i = 1; i <= kept; i++) {
                run.is(kept - i, "undo").is(acts - i, "stop 1 1");
            }
            run.is(-1, "undo").is(acts - kept, "stop 1 1").is(0, "count 12");
        }
        // Each is undone where it was done, of more than forty.
        Run where = Run.of(s, FOUR);
        for (int i = 0; i < 47; i++) {
            where.is(i / 4 > 0 ? i - 4 : 0, "hold " + i % 4 + " " + i);
        }
        for (int i = 46; i >= 7; i--) {
            where.is(i - 7, "undo").is(i / 4 > 0 ? i - 4 : 0, "stop " + i % 4 + " 1");
        }
        where.is(-1, "undo").is(4, "stop 0 1").is(5, "stop 1 1").is(6, "stop 2 1").is(3, "stop 3 1");
        // Full, undone by one, full again: none of the others is gone.
        Run run = Run.of(s, FOUR);
        for (int i = 1; i <= 42; i++) {
            run.call("hold 1 " + i);
        }
        run.is(39, "undo").is(41, "hold 1 50").is(40, "count 12").is(39, "undo").is(41, "stop 1 1").is(38, "undo")
                .is(40, "stop 1 1");
        run.call("sit 0 1 9", "obey 1", "obey 0").is(40, "count 12").is(39, "undo").is(1, "count 3").is(38, "undo")
                .is(-1, "count 3");
        run.is(37, "undo").is(3, "rider 0 3").is(36, "undo").is(39, "stop 1 1");
    }
}
