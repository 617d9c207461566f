/** Promises 1 to 4: a new object, the tape, texts and their faults; and what the rules give. */
public final class TextTest {
    public static void main(String[] args) {
        newObject();
        feed();
        bus();
        settings();
        faultsOfPlace();
        faultsOfMuch();
        faultsOfDepth();
        faultsOfValues();
        faultsOfSeats();
        faultsOfWordsTwice();
        expressions();
        Check.end("TextTest");
    }

    private static void newObject() {
        TingDecks x = new TingDecks();
        int[] due = {2, 0, 0, -1, 1, 11, 5, 6, 10, 0, 0, 0, 0, 0, 0, 0, 0, 0};
        for (int i = 0; i < due.length; i++) {
            int what = i;
            Check.due("count(" + i + ") of a new object", due[i], () -> x.count(what));
        }
        Check.due("stop(1, 0)", 60, () -> x.stop(1, 0));
        Check.due("stop(2, 0)", Check.NO_SUCH, () -> x.stop(2, 0));
        Check.due("fault()", -1, x::fault);
        Check.due("restore()", 0, () -> x.restore() ? 1 : 0);
    }

    private static void feed() {
        TingDecks x = new TingDecks();
        // 'step', ' 7; ', blanks: the highest byte of a number comes first.
        Check.due("feed", 20, () -> x.feed(0x73746570, 0x20373b20, 0x20202020, 0x20202020, 0x20202020));
        Check.due("bus", 0, () -> x.bus(20));
        Check.due("STEP", 7, () -> x.count(4));
        Check.due("tape", 0, () -> x.count(14));
        for (int i = 1; i <= 35; i++) {
            int n = 20 * i;
            Check.due("feed", n, () -> x.feed(0x20202020, 0x20202020, 0x20202020, 0x20202020, 0x20202020));
        }
        Check.due("feed of too much", -1, () -> x.feed(1, 1, 1, 1, 1));
        Check.due("tape", 700, () -> x.count(14));
        Check.due("bus(701)", Check.ILLEGAL, () -> x.bus(701));
        Check.due("tape", 700, () -> x.count(14));
        Check.due("bus(700)", 0, () -> x.bus(700));
        Check.due("STEP", 1, () -> x.count(4));
        Check.due("bus(1)", Check.ILLEGAL, () -> x.bus(1));
        // Bytes above 127 are no tokens, but bytes.
        Check.due("feed", 20, () -> x.feed(0x20202080, -1, -1, -1, -1));
        Check.due("bus(20)", 1, () -> x.bus(20));
        Check.due("fault()", 3, x::fault);
    }

    private static void bus() {
        TingDecks x = Check.bus("ride 5 6 7;rider 1 3 above 4 note maybe 3;picks hops;late 9;");
        x.hold(1, 5);
        x.obey(0);
        x.head(0, 0, 0);
        x.image();
        Check.same("a fault", Check.read(x, "ride 5;step 1"), 1);
        Check.due("fault()", 13, x::fault);
        Check.due("STATUS 0", 1, () -> x.count(15));
        Check.due("all stays: STOPS", 4, () -> x.count(0));
        Check.due("all stays: HOLD", 5, () -> x.stop(1, 1));
        Check.due("all stays: rule", 0, () -> x.count(3));
        Check.due("all stays: ACTS", 2, () -> x.count(12));
        Check.due("all stays: COUNTED", 1, () -> x.count(13));
        Check.due("all stays: image", 1, () -> x.restore() ? 1 : 0);
        Check.due("the tape is empty", 0, () -> x.count(14));
        Check.feed(x, "step 3;");
        Check.due("bus(-1)", Check.ILLEGAL, () -> x.bus(-1));
        Check.due("bus(21)", Check.ILLEGAL, () -> x.bus(21));
        Check.due("nothing changes: tape", 20, () -> x.count(14));
        Check.due("nothing changes: fault", 13, x::fault);
        Check.due("nothing changes: STATUS", 1, () -> x.count(15));
        Check.due("bus(7)", 0, () -> x.bus(7));
        Check.due("fault()", -1, x::fault);
        Check.due("anew: STOPS", 2, () -> x.count(0));
        Check.due("anew: RIDERS", 0, () -> x.count(1));
        Check.due("anew: PICKS", 0, () -> x.count(2));
        Check.due("anew: rule", -1, () -> x.count(3));
        Check.due("anew: STEP", 3, () -> x.count(4));
        Check.due("anew: LATE", 6, () -> x.count(7));
        Check.due("anew: HOLD", 0, () -> x.stop(1, 1));
        Check.due("anew: ACTS", 0, () -> x.count(12));
        Check.due("anew: COUNTED", 0, () -> x.count(13));
        Check.due("anew: image", 0, () -> x.restore() ? 1 : 0);
        Check.due("STATUS stays", 1, () -> x.count(15));
        Check.due("bus(0)", 0, () -> x.bus(0));
        Check.due("bus(0): STEP", 1, () -> x.count(4));
    }

    private static void settings() {
        TingDecks x = Check.bus("\nstep 9;stair99;take0060 ;late 0 ; fade 50;\n");
        int[] due = {9, 99, 60, 0, 50};
        for (int i = 0; i < due.length; i++) {
            int what = 4 + i;
            Check.due("count(" + what + ")", due[i], () -> x.count(what));
        }
        TingDecks y = Check.bus("ride 1 2 3 4 5 6 7 8 9 10 300;rider 10 11 above 9 note maybe 0;");
        Check.due("12 STOPS", 12, () -> y.count(0));
        Check.due("the last STOP", 355, () -> y.stop(11, 0));
        int[] rider = {10, 11, 1, 9, 1, 0, 2};
        for (int i = 0; i < rider.length; i++) {
            int what = i;
            Check.due("rider(0, " + i + ")", rider[i], () -> y.rider(0, what));
        }
    }

    private static void faultsOfPlace() {
        Check.fault("", 0, 0);
        Check.fault(" \n ", 0, 0);
        Check.fault(";", 1, 0);
        Check.fault("7;", 1, 0);
        Check.fault("12345;", 1, 0);
        Check.fault("  rid 5;", 1, 2);
        Check.fault("rides 5;", 1, 0);
        Check.fault("tide 5;", 1, 0);
        Check.fault("step 5z;", 1, 6);
        Check.fault("fare z;", 3, 5);
        Check.fault("fare az;", 3, 5);
        Check.fault("fare {;", 1, 5);
        Check.fault("fare `;", 1, 5);
        Check.fault("fare :;", 1, 5);
        Check.fault("Ride 5;", 1, 0);
        Check.fault("ride\t5;", 1, 4);
        Check.fault("ride 5", 1, 6);
        Check.fault("ride 5   ", 1, 9);
        Check.fault("ride 5 x;", 1, 7);
        Check.fault("ride;", 1, 4);
        Check.fault("ride 5;;", 1, 7);
        Check.fault("step;", 1, 4);
        Check.fault("step 5 5;", 1, 7);
        Check.fault("step (5);", 1, 5);
        Check.fault("rider 0;", 1, 7);
        Check.fault("rider 1;", 1, 7);
        Check.fault("rider 0 1 0;", 1, 10);
        Check.fault("rider 0 1 below note;", 1, 16);
        Check.fault("rider 0 1 below 0 maybe;", 1, 23);
        Check.fault("rider 0 1 below 0 maybe 5 note;", 1, 26);
        Check.fault("rider 0 1 below 0 note note;", 1, 23);
        Check.fault("rider 0 1 below 0 5;", 1, 18);
        Check.fault("rider 0 1 below 0 12345;", 1, 18);
        Check.fault("rider 0 1 below 0", 1, 17);
        Check.fault("fare", 1, 4);
        Check.fault("fare -1;", 1, 5);
        Check.fault("fare 1 2;", 1, 7);
        Check.fault("fare 1 hops;", 1, 7);
        Check.fault("fare 1 not 1;", 1, 7);
        Check.fault("fare 1+;", 1, 7);
        Check.fault("fare 1<2<3;", 1, 8);
        Check.fault("fare 1=2<3;", 1, 8);
        Check.fault("fare (1<2)<3;", 0, 0);
        Check.fault("fare 1);", 1, 6);
        Check.fault("fare ();", 1, 6);
        Check.fault("fare (1;", 1, 7);
        Check.fault("fare 1?;", 1, 6);
        Check.fault("fare 1 or;", 1, 9);
    }

    private static void faultsOfMuch() {
        Check.fault("step 00001;", 2, 5);
        Check.fault("step 0001;", 0, 0);
        Check.fault("step 99999999999;", 2, 5);
        Check.fault("take 61;", 2, 5);
        Check.fault("take 60;take 0;", 5, 8);
        Check.fault("ride 300;", 0, 0);
        Check.fault("ride 301;", 2, 5);
        Check.fault("ride 5 0;", 2, 7);
        Check.fault("ride 1 1 1 1 1 1 1 1 1 1 1;", 0, 0);
        Check.fault("ride 1 1 1 1 1 1 1 1 1 1 1 1;", 2, 27);
        Check.fault("ride 1 1 1 1 1 1 1 1 1 1 1 step", 1, 27);
        Check.fault("rider 2 3 below 0;", 2, 6);
        Check.fault("rider 1 1 below 0;", 2, 8);
        Check.fault("ride 1 1;rider 2 1 below 0;", 2, 17);
        Check.fault("ride 1 1;rider 3 1 below 0;", 2, 15);
        Check.fault("ride 1 1;rider 1 0 below 0;", 2, 17);
        Check.fault("ride 1 1;rider 0 3 below 0;", 2, 17);
        Check.fault("rider 0 1 above 10;", 2, 16);
        Check.fault("rider 0 1 above 9 maybe 11;", 2, 24);
        Check.fault("rider 0 1 above 9 maybe 10;", 0, 0);
        Check.fault("fare 12345;", 2, 5);
        Check.fault("fare 9999;", 0, 0);
        StringBuilder riders = new StringBuilder("ride 1;");
        for (int i = 0; i < 12; i++) {
            riders.append("rider 0 1 ").append(i < 10 ? "below " : "above ").append(i % 10).append(';');
        }
        Check.fault(riders.toString(), 0, 0);
        Check.fault(riders + " rider", 2, riders.length() + 1);
        Check.fault("picks 1;picks 1;picks 1;picks 1;", 0, 0);
        Check.fault("picks 1;picks 1;picks 1;picks 1; picks", 2, 33);
    }

    private static void faultsOfDepth() {
        Check.fault("fare (((((1)))));", 0, 0);
        Check.fault("fare ((((((1))))));", 2, 11);
        Check.fault("fare ((((((hops))))));", 2, 11);
        Check.fault("fare ((((((goose))))));", 2, 11);
        Check.fault("fare ((((((not 1))))));", 2, 11);
        Check.fault("fare ((((((12345))))));", 2, 11);
        Check.fault("fare (((((((1)))))));", 2, 11);
        Check.fault("fare (((((();", 1, 11);
        Check.fault("fare ((((((;", 1, 11);
        Check.fault("fare ((((((", 1, 11);
        Check.fault("fare (((((1)))))+(((((1)))));", 0, 0);
        Check.fault("fare not not not not not not 1;", 0, 0);
        Check.fault("fare not not not not not not not 1;", 2, 29);
        Check.fault("fare not not not not not not(not 1);", 0, 0);
        Check.fault("fare not not not not not not 1 and not not not not not not 1;", 0, 0);
    }

    private static void faultsOfValues() {
        Check.fault("fare near;", 3, 5);
        Check.fault("fare left;", 3, 5);
        Check.fault("fare new;", 3, 5);
        Check.fault("fare fare;", 3, 5);
        Check.fault("fare hops+deck+seat+note;", 0, 0);
        Check.fault("picks hops+deck+seat+note+near+left+new+fare;", 0, 0);
        Check.fault("picks ride;", 3, 6);
        Check.fault("picks 1+not 1;", 3, 8);
        Check.fault("picks 1<not 1;", 3, 8);
        Check.fault("picks or 1;", 3, 6);
        Check.fault("picks not and;", 3, 10);
        Check.fault("picks 1*goose;", 3, 8);
    }

    private static void faultsOfSeats() {
        Check.fault("ride 1 1 1;rider 0 2 below 4;rider 1 3 below 4;", 4, 45);
        Check.fault("ride 1 1 1;rider 1 3 below 4;rider 0 2 below 4;", 4, 45);
        Check.fault("ride 1 1 1;rider 0 3 below 4;rider 1 2 below 4;", 4, 45);
        Check.fault("ride 1 1 1;rider 1 2 below 4;rider 0 3 below 4;", 4, 45);
        Check.fault("ride 1 1 1;rider 0 2 below 4;rider 2 3 below 4;", 0, 0);
        Check.fault("ride 1 1 1;rider 2 3 below 4;rider 0 2 below 4;", 0, 0);
        Check.fault("ride 1 1 1;rider 0 2 below 4;rider 0 2 above 4;", 0, 0);
    }

    private static void faultsOfWordsTwice() {
        Check.fault("ride 1;ride 1;", 5, 7);
        Check.fault("ride 1;rider 0 1 below 0;ride 1;", 6, 25);
        Check.fault("rider 0 1 below 0;ride 1;", 6, 18);
        String[] words = {"step", "take", "late", "fade", "fare"};
        for (String word : words) {
            Check.fault(word + " 1;" + word + " 1;", 5, 7);
        }
        Check.fault("stair 1;stair 1;", 5, 8);
    }

    private static void given(String expr, int due) {
        // Rider 0 rides 3 stops above on seat 7 with a note.
        TingDecks x = Check.bus("ride 9 9 9 9;rider 1 4 above 7 note;fare " + expr + ";");
        Check.due("fare " + expr, due, () -> x.rider(0, 6));
    }

    private static void expressions() {
        given("hops", 3);
        given("deck", 1);
        given("seat", 7);
        given("note", 1);
        given("99", 99);
        given("100", 99);
        given("0-1", 0);
        given("7-2-1", 4);
        given("2+3*4", 14);
        given("(2+3)*4", 20);
        given("90/4/2", 11);
        given("10+(0-7)/2", 7);
        given("7/0", 0);
        given("9/(hops-3)+5", 5);
        given("5 or 0", 1);
        given("0 or 0", 0);
        given("5 and 7", 1);
        given("5 and 0", 0);
        given("1 or 1 and 0", 1);
        given("(1 or 1) and 0", 0);
        given("not 5", 0);
        given("not not 5", 1);
        given("not 0", 1);
        given("not 1<0", 1);
        given("not 1 or 1", 1);
        given("1<2", 1);
        given("2<2", 0);
        given("2=2", 1);
        given("1+1=2", 1);
        given("3*(hops=3)+4*(hops<3)", 3);
        // 46341 * 46341 is just above the greatest int.
        given("(9999*4+6345)*(9999*4+6345)<0", 1);
        given("(9999*4+6344)*(9999*4+6344)<0", 0);
        TingDecks x = Check.bus("rider 0 1 below 0;");
        Check.due("twice the hops", 2, () -> x.rider(0, 6));
    }
}
