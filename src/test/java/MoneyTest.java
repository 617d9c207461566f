/** Promises 15 to 23, 31, 33 and 34: what can be taken, rules, bells, the door, flat, short hops. */
public final class MoneyTest {
    // Rider 1 pays in second 5; rider 0 is missed in second 14, unless the bus waits 9 seconds.
    private static final String SMALL = "ride 10 10;rider 0 1 below 9;rider 0 2 below 0;";

    public static void main(String[] args) {
        most();
        mostOfMany();
        soonest();
        compare();
        bell();
        door();
        two();
        flat();
        hops();
        again();
        worth();
        pace();
        Check.end("MoneyTest");
    }

    private static void most() {
        TingDecks x = Check.bus(SMALL);
        Check.due("most(0)", 4, () -> x.most(0));
        Check.due("most(1)", 2, () -> x.most(1));
        Check.due("most(2)", Check.NO_SUCH, () -> x.most(2));
        Check.due("most(-1)", Check.NO_SUCH, () -> x.most(-1));
        x.hold(0, 9);
        Check.due("most(0) with a HOLD", 6, () -> x.most(0));
        Check.due("most(1) with a HOLD", 3, () -> x.most(1));
        x.undo();
        Check.due("most(0) undone", 4, () -> x.most(0));
        // The nearest first is not the best: 0 then 1 would be missed, 1 then 0 are both taken.
        TingDecks y = Check.bus("ride 12 40;rider 0 2 below 3;rider 0 1 below 7;");
        Check.due("TAKEN", 4, () -> y.count(9));
        Check.due("most(0) by another order", 6, () -> y.most(0));
        // He waits on the SEAT of one who gets on in second 10 and off in 15.
        TingDecks z = Check.bus("ride 10 5 9;rider 1 2 above 9;stair 1;");
        Check.due("TAKEN", 0, () -> z.count(9));
        Check.due("most(0) by waiting", 2, () -> z.most(0));
        Check.due("soonest by waiting", 15, () -> z.soonest(1));
        // Who pays nothing isn't in the least set.
        TingDecks w = Check.bus("ride 99;rider 0 1 below 0;rider 0 1 below 1;fare 5*(seat=1);");
        Check.due("most(0)", 5, () -> w.most(0));
        Check.due("most(1)", 2, () -> w.most(1));
        // Of two like sets the least.
        TingDecks v = Check.bus("ride 5;rider 0 1 above 0;rider 0 1 below 0;rider 0 1 below 1;step 0;");
        Check.due("most(0)", 2, () -> v.most(0));
        Check.due("most(1)", 2, () -> v.most(1));
    }

    private static String many(int riders) {
        StringBuilder s = new StringBuilder("ride 300;");
        for (int i = 0; i < riders; i++) {
            s.append("rider 0 1 ").append(i < 6 ? "below " : "above ").append(i % 6).append(';');
        }
        return s.toString();
    }

    private static void mostOfMany() {
        TingDecks x = Check.bus(many(10));
        Check.due("most(0) of 10", 20, () -> x.most(0));
        Check.due("most(1) of 10", 1023, () -> x.most(1));
        // 5 steps, 5 back, the stair, 3 steps, 10 fares.
        Check.due("soonest of 10", 5 + 5 + 11 + 3 + 50, () -> x.soonest(1023));
        TingDecks y = Check.bus(many(11));
        Check.due("most(0) of 11", -2, () -> y.most(0));
        Check.due("most(1) of 11", -2, () -> y.most(1));
        Check.due("most(2) of 11", Check.NO_SUCH, () -> y.most(2));
        Check.due("soonest(1) of 11", -2, () -> y.soonest(1));
        Check.due("soonest(2048) of 11", Check.ILLEGAL, () -> y.soonest(2048));
    }

    private static void soonest() {
        TingDecks x = Check.bus(SMALL);
        Check.due("soonest(0)", 0, () -> x.soonest(0));
        Check.due("soonest(1)", -1, () -> x.soonest(1));
        Check.due("soonest(2)", 5, () -> x.soonest(2));
        Check.due("soonest(3)", -1, () -> x.soonest(3));
        Check.due("soonest(4)", Check.ILLEGAL, () -> x.soonest(4));
        Check.due("soonest(-1)", Check.ILLEGAL, () -> x.soonest(-1));
        x.hold(0, 9);
        Check.due("soonest(3) with a HOLD", 19, () -> x.soonest(3));
        Check.due("soonest(1) with a HOLD", 14, () -> x.soonest(1));
    }

    private static void compare() {
        TingDecks x = Check.bus("ride 20;rider 0 1 below 9;rider 0 1 below 0;fare 99-(seat=9);"
                + "picks seat;picks fare;picks 5;late 60;");
        Check.due("best: none, of like ones", -1, x::best);
        Check.due("compare(-1)", 197, () -> x.compare(-1));
        Check.due("compare(0)", 98, () -> x.compare(0));
        Check.due("compare(1)", 197, () -> x.compare(1));
        Check.due("compare(2)", 98, () -> x.compare(2));
        Check.due("compare(3)", Check.NO_SUCH, () -> x.compare(3));
        Check.due("compare(-2)", Check.NO_SUCH, () -> x.compare(-2));
        x.hold(1, 7);
        Check.due("compare(-1) is NET", 190, () -> x.compare(-1));
        x.obey(0);
        Check.due("compare(-1), another in force", 190, () -> x.compare(-1));
        Check.due("the rule in force stays", 0, () -> x.count(3));
        // The nearest is worth least: rider 1, who has the greater FARE, must come first.
        TingDecks y = Check.bus("ride 10;rider 0 1 below 0;rider 0 1 below 5;fare seat;picks 0;picks seat;picks fare;");
        Check.due("compare(-1)", 0, () -> y.compare(-1));
        Check.due("best: the first of like ones", 1, y::best);
    }

    private static void bell() {
        TingDecks x = Check.bus(SMALL);
        Check.due("bell(0, 0)", 9, () -> x.bell(0, 0));
        Check.due("bell(0, 1)", 6, () -> x.bell(0, 1));
        Check.due("bell(1, 0)", 0, () -> x.bell(1, 0));
        Check.due("bell(1, 1)", 4, () -> x.bell(1, 1));
        Check.due("bell(2, 0)", 0, () -> x.bell(2, 0));
        Check.due("bell(3, 0)", Check.NO_SUCH, () -> x.bell(3, 0));
        Check.due("bell(-1, 0)", Check.NO_SUCH, () -> x.bell(-1, 0));
        Check.due("bell(0, 2)", Check.NO_SUCH, () -> x.bell(0, 2));
        Check.due("bell(0, -1)", Check.NO_SUCH, () -> x.bell(0, -1));
        x.hold(0, 60);
        x.hold(2, 20);
        Check.due("bell(0, 0), held", 9, () -> x.bell(0, 0));
        Check.due("bell(0, 1), held, another too: 6 - 6 * 29 / 60", 4, () -> x.bell(0, 1));
        Check.due("it stays held", 60, () -> x.stop(0, 1));
        TingDecks z = Check.bus("ride 10;rider 0 1 below 0;take 60;late 0;");
        Check.due("just too short a bell", 50, () -> z.bell(0, 0));
        TingDecks w = Check.bus("ride 1;rider 0 1 below 1;take 60;late 0;");
        Check.due("the longest bell", 60, () -> w.bell(0, 0));
        Check.due("NET then", 2, () -> w.bell(0, 1));
        TingDecks y = Check.bus(SMALL + "late 99;");
        Check.due("too dear a bell", 0, () -> y.bell(0, 0));
        Check.due("too dear a bell", 4, () -> y.bell(0, 1));
    }

    private static void door() {
        TingDecks x = Check.bus(SMALL);
        Check.due("door(0)", 6 - 6 * 10 / 60, () -> x.door(0));
        Check.due("door(1)", 10, () -> x.door(1));
        // 17 * 10 / 60 is 2, 18 * 10 / 60 is 3.
        Check.due("door(2)", 17, () -> x.door(2));
        Check.due("door(3)", Check.NO_SUCH, () -> x.door(3));
        Check.due("door(-1)", Check.NO_SUCH, () -> x.door(-1));
        x.hold(2, 50);
        Check.due("door(0) with a HOLD", 6 - 6 * 60 / 60, () -> x.door(0));
        int line = 0;
        for (int pence = 0; pence <= 99; pence++) {
            line = 6 - pence * 60 / 60 >= 4 - pence * 50 / 60 ? pence : line;
        }
        int due = line;
        Check.due("door(2) with a HOLD", due, () -> x.door(2));
        TingDecks y = Check.bus(SMALL.replace("9;", "9 note;"));
        Check.due("door(1) with a NOTE", 20, () -> y.door(1));
    }

    private static void two() {
        TingDecks x = Check.bus("ride 30;rider 0 1 below 5;rider 0 1 above 5;stair 10;picks 0;");
        Check.due("TAKEN", 2, () -> x.count(9));
        Check.due("two(0)", 4, () -> x.two(0));
        Check.due("two(1)", 2, () -> x.two(1));
        Check.due("two(2)", Check.NO_SUCH, () -> x.two(2));
        Check.due("two(-1)", Check.NO_SUCH, () -> x.two(-1));
        // Each picks by the rule in force: the first one first, so the other is missed.
        TingDecks y = Check.bus("ride 20;rider 0 1 above 9;rider 0 1 above 0;picks 0;");
        Check.due("two(0), nearest", 4, () -> y.two(0));
        y.obey(0);
        Check.due("two(0) by a rule", 2, () -> y.two(0));
    }

    private static void flat() {
        TingDecks x = Check.bus("ride 20;rider 0 1 below 9;rider 0 1 below 0;fare 99-(seat=9);picks fare;");
        Check.due("flat: 99 * 2 is no less than 197", 99, x::flat);
        x.obey(0);
        // By one FARE the first one is first, and the other is missed.
        Check.due("flat: none", -1, x::flat);
        TingDecks y = Check.bus("ride 99;rider 0 1 below 0;rider 0 1 below 1;fare 3+seat;");
        Check.due("flat: 7 by two", 4, y::flat);
        TingDecks z = Check.bus("ride 1;rider 0 1 below 0;");
        Check.due("flat: nothing is taken", 0, z::flat);
    }

    private static void hops() {
        TingDecks x = Check.bus("ride 1 1 1;rider 0 1 below 0;rider 0 2 below 1;rider 0 3 below 2;");
        int[] due = {0, 2, 6, 12, 12};
        for (int i = 0; i < due.length; i++) {
            int stops = i;
            Check.due("hops(" + i + ")", due[i], () -> x.hops(stops));
        }
        Check.due("hops(12)", 12, () -> x.hops(12));
        Check.due("hops(13)", Check.ILLEGAL, () -> x.hops(13));
        Check.due("hops(-1)", Check.ILLEGAL, () -> x.hops(-1));
        TingDecks y = Check.bus(SMALL);
        Check.due("who paid does not count", 2, () -> y.hops(12));
    }

    private static void again() {
        TingDecks x = Check.bus("ride 10 10 10 10;rider 0 4 below 0;fade 50;");
        int[] due = {0, 50, 100, 100, 0};
        for (int i = 0; i < due.length; i++) {
            int stop = i;
            Check.due("again(" + i + ")", due[i], () -> x.again(stop));
        }
        Check.due("again(5)", Check.NO_SUCH, () -> x.again(5));
        Check.due("again(-1)", Check.NO_SUCH, () -> x.again(-1));
        // Paid in the second of a STOP: no STOP ago there; the other one pays in 21.
        TingDecks y = Check.bus("ride 10 10 10 10;rider 0 4 below 0;rider 0 4 below 1;take 10;fade 7;");
        int[] dueOfY = {0, 0, 7, 14 + 7, 0};
        for (int i = 0; i < dueOfY.length; i++) {
            int stop = i;
            Check.due("again(" + i + ") of two", dueOfY[i], () -> y.again(stop));
        }
    }

    private static void worth() {
        TingDecks x = Check.bus("ride 20;rider 0 1 above 9;rider 0 1 below 0;stair 99;picks deck;");
        x.obey(0);
        Check.due("less is taken with him", -2, () -> x.worth(0));
        Check.due("nothing is taken of him", 0, () -> x.worth(1));
        Check.due("worth(2)", Check.NO_SUCH, () -> x.worth(2));
        Check.due("worth(-1)", Check.NO_SUCH, () -> x.worth(-1));
        x.obey(-1);
        Check.due("worth(1), nearest", 2, () -> x.worth(1));
    }

    private static void pace() {
        TingDecks x = Check.bus(SMALL);
        Check.due("pace", 20, x::pace);
        TingDecks y = Check.bus("ride 60;rider 0 1 below 0 note;");
        Check.due("pace with a NOTE", 20, y::pace);
        TingDecks z = Check.bus("ride 1;rider 0 1 below 0;");
        Check.due("pace, nothing is taken", 60, z::pace);
        TingDecks w = Check.bus("ride 1;rider 0 1 below 0;take 1;");
        Check.due("pace, the least", 1, w::pace);
    }
}
