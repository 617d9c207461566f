/** The sentences with a boundary under "==== 3." and in the promises 15 to 20. */
public final class MoneyEdgesTest {
    // Rider 1 pays in second 5; rider 0 is missed in second 14, unless the bus waits 9 seconds.
    private static final String SMALL = "ride 10 10;rider 0 1 below 9;rider 0 2 below 0;";

    public static void main(String[] args) {
        mostInTime();
        mostByWaiting();
        mostByAnyOrder();
        theLeastSet();
        spentAboveTen();
        compared();
        theBest();
        theHold();
        theHoldOfLikeOnes();
        atTheDoor();
        theLine();
        twoMen();
        Check.end("MoneyEdgesTest");
    }

    private static void mostInTime() {
        String s = "each FARE must be taken by the second in which the bus is at TO";
        Run.of(s, "ride 10;rider 0 1 below 5;").is(2, "most 0").is(1, "most 1").is(10, "soonest 1");
        Run.of(s, "ride 9;rider 0 1 below 5;").is(0, "most 0", "most 1").is(-1, "soonest 1");
        Run.of(s, "ride 15;rider 0 1 below 0 note;").is(2, "most 0").reads("ride 14;rider 0 1 below 0 note;")
                .is(0, "most 0", "most 1");
        // A HOLD ahead of TO gives him time, that at TO doesn't.
        Run.of(s, "ride 9;rider 0 1 below 5;").call("hold 1 60").is(0, "most 0").call("hold 0 1").is(2, "most 0")
                .call("undo").is(0, "most 0");
        // Two of them: 5 and 5 seconds and one STEP.
        Run.of(s, "ride 11;rider 0 1 below 0;rider 0 1 below 1;").is(4, "most 0").is(3, "most 1");
        Run.of(s, "ride 10;rider 0 1 below 0;rider 0 1 below 1;").is(2, "most 0").is(1, "most 1");
        Run.of("nobody", "ride 9;").is(0, "most 0", "most 1");
    }

    private static void mostByWaiting() {
        String s = "(he may wait on a SEAT till somebody has got on)";
        Run.of(s, "ride 10 5;rider 1 2 above 9;stair 1;").is(0, "count 9").is(2, "most 0").is(1, "most 1")
                .is(15, "soonest 1");
        Run.of(s, "ride 10 4;rider 1 2 above 9;stair 1;").is(0, "most 0", "most 1").is(-1, "soonest 1");
        // He is on that SEAT in second 10 just so, and in second 11.
        Run.of(s, "ride 10 5;rider 1 2 above 9;stair 0;step 1;").is(15, "soonest 1");
        Run.of(s, "ride 10 6;rider 1 2 above 9;stair 2;step 1;").is(16, "soonest 1");
        Run.of(s, "ride 10 5;rider 1 2 above 9;stair 2;step 1;").is(-1, "soonest 1").is(0, "most 0");
    }

    private static void mostByAnyOrder() {
        String s = "by any order of any RIDERS: the greatest sum of FARES";
        // The nearest first is missed by then; the other way round both pay.
        Run.of(s, "ride 12 40;rider 0 2 below 3;rider 0 1 below 7;").is(4, "count 9").is(6, "most 0").is(3, "most 1");
        // One who pays 9 is more than two who pay 4.
        Run.of(s, "ride 14;rider 0 1 below 0;rider 0 1 below 1;rider 0 1 below 9;fare 4+5*(seat=9);").is(9, "most 0")
                .is(4, "most 1");
        Run.of(s, "ride 14;rider 0 1 below 0;rider 0 1 below 1;rider 0 1 below 9;fare 4+3*(seat=9);").is(8, "most 0")
                .is(3, "most 1");
        Run.of("most() goes with SEATS", "ride 10;rider 0 1 below 5;").is(2, "most 0").call("sit 0 0 6").is(0, "most 0")
                .call("undo").is(2, "most 0");
        Run.of("most() is by no rule", "ride 20;rider 0 1 below 9;rider 0 1 below 0;picks seat;").call("obey 0")
                .is(2, "count 9").is(4, "most 0");
    }

    private static void theLeastSet() {
        String s = "the least set of RIDERS (as bits) by which it is so much";
        Run.of(s, "ride 99;rider 0 1 below 0;rider 0 1 below 1;fare seat;").is(1, "most 0").is(2, "most 1");
        Run.of(s, "ride 99;rider 0 1 below 1;rider 0 1 below 0;fare seat;").is(1, "most 0", "most 1");
        Run.of(s, "ride 99;rider 0 1 below 0;fare 0;").is(0, "most 0", "most 1");
        Run.of(s, "ride 5;rider 0 1 above 0;rider 0 1 below 0;rider 0 1 below 1;step 0;").is(2, "most 0", "most 1");
        // One (bits 4) as much as two (bits 3): three is less than four.
        Run.of(s, "ride 12;rider 0 1 below 0;rider 0 1 below 1;rider 0 1 below 2;fare 2+2*(seat=2);take 5;")
                .is(6, "most 0").is(5, "most 1");
        Run.of(s, "ride 11;rider 0 1 below 0;rider 0 1 below 1;rider 0 1 below 3;fare 2+2*(seat=3);take 5;")
                .is(4, "most 0").is(3, "most 1");
    }

    private static void spentAboveTen() {
        String s = "SPENT above 10 RIDERS";
        Run.of(s, "ride 300;" + Run.riders(9, "")).is(18, "most 0").is(511, "most 1");
        Run.of(s, "ride 300;" + Run.riders(10, "")).is(20, "most 0").is(1023, "most 1");
        Run.of(s, "ride 300;" + Run.riders(11, "")).is(-2, "most 0", "most 1");
        Run.of(s, "ride 300;" + Run.riders(12, "")).is(-2, "most 0", "most 1");
        Run.of("another what, ahead of SPENT", "ride 300;" + Run.riders(11, "")).noSuch("most 2", "most -1");
        // One bus behind the other, on one object.
        Run.of(s, "ride 300;" + Run.riders(10, "")).is(20, "most 0").reads("ride 300;" + Run.riders(11, ""))
                .is(-2, "most 0").reads("ride 300;" + Run.riders(3, "")).is(6, "most 0").is(7, "most 1")
                .reads("ride 300;" + Run.riders(10, "")).is(1023, "most 1");
    }

    private static void compared() {
        String s = "NET by one (NONE: by none). NoSuchElementException: no such rule";
        String text = "ride 20;rider 0 1 below 9;rider 0 1 below 0;late 60;picks seat;picks 0-seat;";
        Run run = Run.of(s, text).is(4, "compare -1").is(2, "compare 0").is(4, "compare 1")
                .noSuch("compare 2", "compare -2", "compare 2147483647", "compare -2147483648");
        run.call("hold 1 3").is(1, "compare -1", "compare 1").is(-1, "compare 0").call("obey 0").is(1, "compare -1")
                .is(-1, "compare 0", "count 10").is(0, "count 3");
        run.is(2, "count 12").is(0, "count 16");
        Run.of(s, "").is(0, "compare -1").noSuch("compare 0");
        Run.of(s, "picks 1;picks 1;picks 1;picks 1;").is(0, "compare 3").noSuch("compare 4");
    }

    private static void theBest() {
        String s = "THE BEST (of like ones none ahead of PICKS in their order); NONE: none is";
        Run.of(s).is(-1, "best");
        // By seat 9 first only one pays.
        String two = "ride 20;rider 0 1 below 9;rider 0 1 below 0;";
        Run.of(s, two + "picks seat;").is(-1, "best");
        Run.of(s, two + "picks 0-seat;").is(-1, "best").call("obey 0").is(-1, "best");
        String far = "ride 10;rider 0 1 below 0;rider 0 1 below 5;fare seat;";
        Run.of(s, far + "picks 0;picks seat;picks fare;").is(1, "best").call("obey 2").is(1, "best").is(2, "count 3");
        Run.of(s, far + "picks 0;picks 0;picks 0;picks seat;").is(3, "best");
        Run.of(s, far + "picks seat;picks 0;picks seat;picks seat;").is(0, "best");
        Run.of("by NET: HOLDS cost all of them alike", far + "picks 0;picks seat;late 99;").call("hold 1 60")
                .is(1, "best").is(-99, "compare -1").is(-94, "compare 1");
    }

    private static void theHold() {
        String s = "THE HOLD of a STOP by which NET is greatest (0 to 60)";
        // The STAIR and his FARE take 70 seconds, or 71.
        Run.of(s, "ride 10;rider 0 1 above 0;stair 65;late 0;").is(60, "bell 0 0").is(2, "bell 0 1");
        Run.of(s, "ride 10;rider 0 1 above 0;stair 66;late 0;").is(0, "bell 0 0", "bell 0 1");
        Run.of(s, "ride 10;rider 0 1 above 0;stair 64;late 0;").is(59, "bell 0 0");
        Run.of(s, "ride 10;rider 0 1 above 0;stair 5;late 0;").is(0, "bell 0 0").is(2, "bell 0 1");
        Run.of(s, "ride 10;rider 0 1 above 0;stair 6;late 0;").is(1, "bell 0 0");
        // At the last STOP it can only cost.
        Run.of(s, SMALL).is(0, "bell 2 0", "bell 1 0").is(4, "bell 2 1", "bell 1 1").is(9, "bell 0 0")
                .is(6, "bell 0 1");
        Run held = Run.of("all else as it is", SMALL).call("hold 0 60", "hold 2 20").is(9, "bell 0 0").is(4, "bell 0 1")
                .is(0, "bell 2 0").is(0, "bell 2 1");
        held.is(60, "stop 0 1").is(20, "stop 2 1").is(2, "count 12").is(6, "count 9").is(-2, "count 10");
        Run.of("no such STOP, what", SMALL).noSuch("bell 3 0", "bell -1 1", "bell 0 2", "bell 0 -1", "bell 3 2");
    }

    private static void theHoldOfLikeOnes() {
        String s = "of like ones the least";
        // 9 seconds bring 2 pence: by LATE 6 they cost 0, by 7 1, by 14 2.
        Run.of(s, SMALL + "late 6;").is(9, "bell 0 0").is(6, "bell 0 1");
        Run.of(s, SMALL + "late 7;").is(9, "bell 0 0").is(5, "bell 0 1");
        Run.of(s, SMALL + "late 13;").is(9, "bell 0 0").is(5, "bell 0 1");
        Run.of(s, SMALL + "late 14;").is(0, "bell 0 0").is(4, "bell 0 1");
        Run.of(s, SMALL + "late 0;").is(9, "bell 0 0").is(0, "bell 1 0", "bell 2 0");
        Run.of(s, "late 0;").is(0, "bell 0 0", "bell 1 0", "bell 0 1");
        // NET is below 0 by another HOLD, whatever this one is.
        Run.of(s, "late 99;").call("hold 1 60").is(0, "bell 0 0").is(-99, "bell 0 1").is(0, "bell 1 0", "bell 1 1");
    }

    private static void atTheDoor() {
        String s = "TAKE for each is waited: NET is all FARES less LATE by all that (and HOLDS), by 60, cut down";
        Run.of(s, "").is(0, "door 0", "door 1");
        Run.of(s, SMALL).is(10, "door 1").is(5, "door 0").call("hold 0 49").is(10, "door 1").is(1, "door 0")
                .call("hold 1 1").is(0, "door 0");
        Run.of(s, SMALL).call("hold 2 60").is(-1, "door 0").is(10, "door 1");
        Run.of(s, "rider 0 1 below 0;take 9;").is(9, "door 1").is(2, "door 0").reads("rider 0 1 below 0;take 10;")
                .is(1, "door 0");
        Run.of(s, "rider 0 1 below 0 note;take 3;").is(9, "door 1").is(2, "door 0")
                .reads("rider 0 1 below 0 note;take 4;").is(12, "door 1").is(1, "door 0");
        Run.of(s, "ride 300;" + Run.riders(12, "") + "take 60;late 99;").is(720, "door 1").is(24 - 1188, "door 0");
        Run.of("all pay, whom he misses too", "ride 1;rider 0 1 below 9;").is(0, "count 9").is(2, "door 0");
    }

    private static void theLine() {
        String s = "THE LINE: the greatest pence for a minute (0 to 99) by which NET at the door is no less than NET walking";
        Run.of(s, "").is(99, "door 2");
        // A minute is waited: as many pence as the one is worth whom he misses walking.
        Run.of(s, "ride 1;rider 0 1 below 0;take 60;fare 99;").is(99, "door 2");
        Run.of(s, "ride 1;rider 0 1 below 0;take 60;fare 98;").is(98, "door 2");
        Run.of(s, "ride 1;rider 0 1 below 0;take 60;fare 1;").is(1, "door 2");
        Run.of(s, "ride 1;rider 0 1 below 0;take 60;fare 0;").is(0, "door 2");
        // Five seconds: 11 pence for a minute are 0, 12 are 1.
        Run.of(s, "rider 0 1 below 0;").is(11, "door 2");
        Run.of(s, "rider 0 1 below 0;take 1;").is(59, "door 2");
        Run.of(s, "rider 0 1 below 0;late 99;").is(11, "door 2");
        // With HOLDS both are cut down: 60 seconds against 55, 1 penny is 1 against 0.
        Run.of(s, "rider 0 1 below 0;").call("hold 1 55").is(0, "door 2");
        // 40 seconds against 35: 3 pence are 2 against 1, but 4 are 2 against 2, and 7 are 4 against 4.
        Run.of(s, "rider 0 1 below 0;").call("hold 1 35").is(7, "door 2");
        Run.of(s, "rider 0 1 below 0;late 0;").call("hold 1 35").is(7, "door 2");
        Run.of("another what", SMALL).noSuch("door 3", "door -1");
    }

    private static void twoMen() {
        String s = "TWO MEN: one on each DECK, who never leaves it, each on SEAT 0 in second 0";
        Run.of(s, "ride 5;rider 0 1 above 0;rider 0 1 below 0;stair 99;").is(2, "count 9").is(4, "two 0")
                .is(2, "two 1");
        Run.of(s, "ride 6;rider 0 1 above 1;rider 0 1 below 1;").is(4, "two 0")
                .reads("ride 5;rider 0 1 above 1;rider 0 1 below 1;").is(0, "two 0", "two 1");
        Run.of(s, "ride 30;rider 0 1 below 5;rider 0 1 below 6;").is(4, "two 0").is(0, "two 1");
        // The one above is near to them: by the STAIR he would be another one's.
        String t = "each picking by the rule in force";
        Run.of(t, "ride 20;rider 0 1 above 9;rider 0 1 above 0;picks 0;picks near;").is(4, "two 0").call("obey 0")
                .is(2, "two 0").call("obey 1").is(2, "two 0").is(2, "two 1");
        Run.of(t, "ride 5;rider 0 1 above 0;rider 0 1 above 1;rider 0 1 below 0;picks 9*(near=11)+5*(near=1)+(near=0);")
                .call("obey 0").is(2, "two 0");
        String u = "WORTH is that less TAKEN";
        Run.of(u, "ride 30 30;rider 0 1 below 0;rider 1 2 above 0;").is(4, "two 0", "count 9").is(0, "two 1");
        // One man alone goes above first, and from there to SEAT 0; two: the one below goes to SEAT 9 first.
        Run.of(u, "ride 20;rider 0 1 below 0;rider 0 1 below 9;rider 0 1 above 1;fare 1+8*(seat=0);stair 0;picks deck*5+(near=9);")
                .call("obey 0").is(10, "count 9").is(2, "two 0").is(-8, "two 1");
        Run.of("another what", SMALL).noSuch("two 2", "two -1");
    }
}
