/** The sentences with a boundary in the Terms ahead of "==== 2." and in the promises 1 to 4. */
public final class TextEdgesTest {
    private static final String RIDERS_11 = Run.riders(11, "");
    private static final String RIDERS_12 = Run.riders(12, "");

    public static void main(String[] args) {
        numbers();
        riders();
        tokens();
        lines();
        expressions();
        faults();
        newObject();
        feed();
        bus();
        allAnew();
        fault();
        Check.end("TextEdgesTest");
    }

    private static String times(String what, int n) {
        StringBuilder s = new StringBuilder();
        for (int i = 0; i < n; i++) {
            s.append(what);
        }
        return s.toString();
    }

    // ------------------------------------------------------------------ the limits of each number

    private static void numbers() {
        stopsAreTwoToTwelve();
        ridesAreOneToThreeHundred();
        setting("STEP 0 to 9; 1 without", "step", 0, 9, 1, 4);
        setting("STAIR 0 to 99; 11 without", "stair", 0, 99, 11, 5);
        setting("TAKE 1 to 60; 5 without", "take", 1, 60, 5, 6);
        setting("LATE 0 to 99; 6 without", "late", 0, 99, 6, 7);
        setting("FADE 0 to 50; 10 without", "fade", 0, 50, 10, 8);
        picksAreFourAtMost();
        numbersHaveFourDigits();
    }

    private static void stopsAreTwoToTwelve() {
        String s = "STOPS: 2 to 12";
        Run.of(s, "ride 5;").is(2, "count 0").is(5, "stop 1 0").noSuch("stop 2 0");
        Run.of(s, "ride 1 2 3 4 5 6 7 8 9 10 11;").is(12, "count 0").is(66, "stop 11 0").noSuch("stop 12 0");
        Run.of(s).refuses(2, "ride 1 2 3 4 5 6 7 8 9 10 11 ^12;");
        Run.of(s).refuses(2, "ride 1 2 3 4 5 6 7 8 9 10 11 ^301;");
        Run.of(s).refuses(2, "ride 1 2 3 4 5 6 7 8 9 10 11 ^12345;");
        Run.of(s).refuses(2, "ride 1 2 3 4 5 6 7 8 9 10 11 ^12");
        Run.of(s).refuses(1, "ride 1 2 3 4 5 6 7 8 9 10 11 ^below;");
    }

    private static void ridesAreOneToThreeHundred() {
        String s = "RIDES: 1 to 300 seconds each; one of 60 without";
        Run.of(s, "ride 1;").is(1, "stop 1 0");
        Run.of(s, "ride 300;").is(300, "stop 1 0");
        Run.of(s, "ride 1 300 1;").row("stop 1", 1, 0, 0, 0).row("stop 2", 301).row("stop 3", 302);
        Run.of(s).refuses(2, "ride ^0;").refuses(2, "ride ^301;").refuses(2, "ride 1 ^0;").refuses(2, "ride 300 ^301;");
        Run.of(s).refuses(2, "ride 1 2 3 4 5 6 7 8 9 10 ^0;").refuses(2, "ride 1 2 3 4 5 6 7 8 9 10 ^301;");
        Run.of(s, "step 1;").is(2, "count 0").is(60, "stop 1 0");
        Run.of(s, "").is(2, "count 0").is(60, "stop 1 0");
        // Behind another bus they are without again.
        Run.of(s, "ride 7 8;step 0;stair 0;take 1;late 0;fade 0;").reads("").is(60, "stop 1 0")
                .is(1, "count 4").is(11, "count 5").is(5, "count 6").is(6, "count 7").is(10, "count 8");
    }

    private static void setting(String s, String word, int least, int most, int without, int what) {
        Run.of(s, "").is(without, "count " + what);
        Run.of(s, word + " " + least + ";").is(least, "count " + what);
        Run.of(s, word + " " + most + ";").is(most, "count " + what);
        Run.of(s).refuses(2, word + " ^" + (most + 1) + ";").is(without, "count " + what);
        Run.of(s).refuses(2, word + " ^9999;").refuses(2, word + " ^00000;");
        if (least > 0) {
            Run.of(s).refuses(2, word + " ^" + (least - 1) + ";").is(without, "count " + what);
        }
        Run.of(s).refuses(1, word + "^;").refuses(1, word + " ^-1;").refuses(1, word + " " + most + " ^" + most + ";");
        Run.of(s).refuses(5, word + " " + most + ";^" + word + " " + most + ";");
    }

    private static void picksAreFourAtMost() {
        String s = "PICKS 0, 1 .. (at most 4)";
        Run.of(s, "step 1;").is(0, "count 2");
        Run.of(s, times("picks 1;", 4)).is(4, "count 2").is(1, "obey 3").is(0, "obey 4");
        Run.of(s).refuses(2, times("picks 1;", 4) + "^picks 1;");
        Run.of(s).refuses(2, times("picks 1;", 4) + "step 1;^picks");
        // A rule of the fare is none of PICKS.
        Run.of(s, times("picks 1;", 4) + "fare 1;").is(4, "count 2");
    }

    private static void numbersHaveFourDigits() {
        String s = "NUMBERS (1 to 4 digits)";
        Run.of(s, "step 0009;").is(9, "count 4");
        Run.of(s).refuses(2, "step ^00009;").refuses(2, "step ^99999999999999999999;");
        Run.of(s).refuses(2, "ride ^00001;").refuses(2, "rider ^00000 1 below 0;")
                .refuses(2, "rider 0 ^00001 below 0;");
        Run.of(s).refuses(2, "rider 0 1 below ^00000;").refuses(2, "rider 0 1 below 0 maybe ^00001;");
        Run.of(s, "rider 0000 0001 below 0009 maybe 0010;").is(9, "rider 0 3").is(10, "rider 0 5");
        Run.of(s, "rider 0 1 below 0;fare 0099;").is(99, "rider 0 6");
        Run.of(s, "rider 0 1 below 0;fare 9999/101;").is(99, "rider 0 6");
        Run.of(s).refuses(2, "fare ^10000;").refuses(2, "fare ^00000;").refuses(2, "picks 1+^12345;");
        // 2 to the 32nd and 1 more would be 1 in an int.
        Run.of(s).refuses(2, "step ^4294967297;");
    }

    // ------------------------------------------------------------------ riders

    private static void riders() {
        ridersAreTwelveAtMost();
        fromAndTo();
        decksAndSeats();
        notesAndTenths();
        seatsThatAreTaken();
    }

    private static void ridersAreTwelveAtMost() {
        String s = "RIDERS 0, 1 .. (at most 12)";
        Run.of(s, "").is(0, "count 1").noSuch("rider 0 0");
        Run.of(s, RIDERS_12).is(12, "count 1").is(1, "rider 11 2").is(5, "rider 11 3").noSuch("rider 12 0");
        Run.of(s).refuses(2, RIDERS_12 + "^rider 0 1 above 5;");
        Run.of(s).refuses(2, RIDERS_12 + "^rider");
        Run.of(s).refuses(2, RIDERS_12 + "step 1;^rider;");
        Run.of(s).refuses(1, RIDERS_11 + "rider^;");
    }

    private static void fromAndTo() {
        String s = "FROM a STOP TO a later one";
        Run.of(s, "ride 9 9 9;rider 0 1 below 0;rider 0 3 below 1;rider 2 3 below 0;")
                .is(0, "rider 1 0").is(3, "rider 1 1").is(2, "rider 2 0").is(3, "rider 2 1");
        Run.of(s).refuses(2, "ride 9 9 9;rider ^4 5 below 0;").refuses(2, "ride 9 9 9;rider ^9999 1 below 0;");
        Run.of(s).refuses(2, "ride 9 9 9;rider 2 ^2 below 0;").refuses(2, "ride 9 9 9;rider 2 ^1 below 0;");
        Run.of(s).refuses(2, "ride 9 9 9;rider 0 ^0 below 0;").refuses(2, "ride 9 9 9;rider 0 ^4 below 0;");
        String t = "a FROM that is the last STOP is told by its TO";
        Run.of(t).refuses(2, "ride 9 9 9;rider 3 ^4 below 0;").refuses(2, "ride 9 9 9;rider 3 ^3 below 0;");
        Run.of(t).refuses(2, "ride 9 9 9;rider 3 ^0 below 0;").refuses(2, "rider 1 ^2 below 0;");
        Run.of(t).refuses(1, "ride 9 9 9;rider 3 ^below 0;").refuses(1, "ride 9 9 9;rider 3^");
        String u = "two STOPS without 'ride'";
        Run.of(u, "rider 0 1 below 0;").is(1, "count 1");
        Run.of(u).refuses(2, "rider ^2 3 below 0;").refuses(2, "rider 0 ^2 below 0;");
        // Those of another bus don't count.
        Run.of(u, "ride 9 9 9;").refuses(2, "rider 0 ^2 below 0;");
        String w = "12 STOPS";
        String twelve = "ride 1 1 1 1 1 1 1 1 1 1 1;";
        Run.of(w, twelve + "rider 0 11 below 0;rider 10 11 below 1;").is(22, "rider 0 6").is(2, "rider 1 6");
        Run.of(w).refuses(2, twelve + "rider 11 ^12 below 0;").refuses(2, twelve + "rider ^12 13 below 0;");
        Run.of(w).refuses(2, twelve + "rider 10 ^12 below 0;");
    }

    private static void decksAndSeats() {
        String s = "a DECK (0 below, 1 above), a SEAT (0 to 9)";
        Run.of(s, "rider 0 1 below 0;rider 0 1 above 9;rider 0 1 below 9;rider 0 1 above 0;")
                .row("rider 0", 0, 1, 0, 0).row("rider 1", 0, 1, 1, 9).row("rider 2", 0, 1, 0, 9)
                .row("rider 3", 0, 1, 1, 0);
        Run.of(s).refuses(2, "rider 0 1 below ^10;").refuses(2, "rider 0 1 above ^10;")
                .refuses(2, "rider 0 1 above ^9999;");
        Run.of(s).refuses(1, "rider 0 1 ^0 0;").refuses(1, "rider 0 1 ^beneath 0;")
                .refuses(1, "rider 0 1 below ^above 0;");
        Run.of(s).refuses(1, "rider 0 1 below^;").refuses(1, "rider 0 1 below ^note;");
    }

    private static void notesAndTenths() {
        String s = "with a NOTE or not, TENTHS (0 to 10; 10 without)";
        Run.of(s, "rider 0 1 below 0;rider 0 1 below 1 note;rider 0 1 below 2 maybe 0;rider 0 1 below 3 note maybe 10;")
                .is(0, "rider 0 4", "rider 2 4").is(1, "rider 1 4", "rider 3 4")
                .is(10, "rider 0 5", "rider 1 5", "rider 3 5").is(0, "rider 2 5");
        Run.of(s).refuses(2, "rider 0 1 below 0 maybe ^11;").refuses(2, "rider 0 1 below 0 note maybe ^11;");
        Run.of(s).refuses(1, "rider 0 1 below 0 maybe^;").refuses(1, "rider 0 1 below 0 maybe ^note 5;");
        Run.of(s).refuses(1, "rider 0 1 below 0 maybe 5 ^note;").refuses(1, "rider 0 1 below 0 maybe 5 ^maybe 5;");
        Run.of(s).refuses(1, "rider 0 1 below 0 note ^note;").refuses(1, "rider 0 1 ^note below 0;");
        // The NOTE of a bus is not that of the next one, nor that of a text with a FAULT.
        Run.of(s, "rider 0 1 below 0 note maybe 3;").refuses(1, "rider 0 1 below 0 note maybe 3^")
                .reads("rider 0 1 below 0;").is(0, "rider 0 4").is(10, "rider 0 5");
    }

    private static void seatsThatAreTaken() {
        String s = "4 the SEAT of a RIDER on which another one sits for a RIDE that both have";
        String stops = "ride 9 9 9 9;rider 1 3 below 4;";
        Run.of(s).refuses(4, stops + "rider 1 3 below ^4;").refuses(4, stops + "rider 0 4 below ^4;");
        Run.of(s).refuses(4, stops + "rider 0 2 below ^4;").refuses(4, stops + "rider 2 4 below ^4;");
        Run.of(s).refuses(4, stops + "rider 2 3 below ^4;").refuses(4, stops + "rider 1 2 below ^4;");
        Run.of(s, stops + "rider 0 1 below 4;rider 3 4 below 4;").is(3, "count 1");
        Run.of(s, stops + "rider 1 3 below 5;rider 1 3 above 4;rider 1 3 below 3;").is(4, "count 1");
        Run.of(s).refuses(4, stops + "rider 0 1 below 4;rider 3 4 below 4;rider 0 1 below ^4;");
        Run.of(s).refuses(4, stops + "rider 0 1 below 0;rider 2 3 below ^4 note maybe 11;");
        Run.of(s).refuses(4, "rider 0 1 above 0;rider 0 1 above ^0");
        Run.of(s).refuses(4, "rider 0 1 above 9;rider 0 1 above ^0009;");
    }

    // ------------------------------------------------------------------ tokens and lines

    private static void tokens() {
        everyByteBehindANumber();
        everyByteWhereAPartMustStand();
        wordsAreTheLongestRow();
        everyLetterCounts();
        blanksCountForNothing();
    }

    private static Run faultAt(String s, int fault, String text, int place) {
        return Run.of(s).refuses(fault, text.substring(0, place) + "^" + text.substring(place));
    }

    private static void everyByteBehindANumber() {
        String s = "TOKENS: words, NUMBERS, signs, blanks (32, 10)";
        for (int b = 0; b < 256; b++) {
            String text = "ride 5" + (char) b + ";";
            if (b == ' ' || b == '\n') {
                Run.of(s, text).is(5, "stop 1 0");
            } else if (b >= '0' && b <= '9') {
                Run.of(s, text).is(50 + b - '0', "stop 1 0");
            } else if (b != '^') {
                faultAt(s, 1, text, b == ';' ? 7 : 6);
            }
        }
        Check.fault("ride 5^;", 1, 6);
    }

    private static void everyByteWhereAPartMustStand() {
        String s = "TOKENS where a PART must stand";
        for (int b = 0; b < 256; b++) {
            String text = "fare " + (char) b + ";";
            if (b >= '0' && b <= '9') {
                Run.of(s, text).is(0, "count 1");
            } else if (b >= 'a' && b <= 'z') {
                faultAt(s, 3, text, 5);
            } else if (b != '^') {
                faultAt(s, 1, text, b == ' ' || b == '\n' || b == '(' ? 6 : 5);
            }
        }
        Check.fault("fare ^;", 1, 5);
    }

    private static void wordsAreTheLongestRow() {
        String s = "words (a .. z, the longest row)";
        Run.of(s).refuses(1, "^steps 5;").refuses(1, "^ste p 5;").refuses(1, "^stepfade 5;").refuses(1, "^s;");
        Run.of(s).refuses(3, "fare ^hopsdeck;").refuses(3, "fare ^hop;").refuses(3, "fare ^nothops;")
                .refuses(1, "fare hops ^deck;");
        Run.of(s).refuses(1, "rider 0 1 ^belowabove 0;").refuses(1, "rider 0 1 below 0 ^notemaybe 5;");
        Run.of(s).refuses(1, "^Step 5;").refuses(1, "^sTep 5;");
        Run.of(s, "rider0 1below0note maybe3;step5;fare2*hops;").is(1, "rider 0 4").is(3, "rider 0 5").is(5, "count 4")
                .is(2, "rider 0 6");
    }

    private static void everyLetterCounts() {
        String s = "In quotes is what stands there";
        for (String word : new String[] {"ride", "step", "stair", "take", "late", "fade"}) {
            everyLetterOf(s, 1, "", word, " 5;");
        }
        everyLetterOf(s, 1, "", "rider", " 0 1 below 0;");
        everyLetterOf(s, 1, "rider 0 1 ", "below", " 0;");
        everyLetterOf(s, 1, "rider 0 1 ", "above", " 0;");
        everyLetterOf(s, 1, "rider 0 1 below 0 ", "note", ";");
        everyLetterOf(s, 1, "rider 0 1 below 0 ", "maybe", " 5;");
        everyLetterOf(s, 1, "", "fare", " 1;");
        everyLetterOf(s, 1, "", "picks", " 1;");
        everyLetterOf(s, 1, "fare 1 ", "and", " 1;");
        everyLetterOf(s, 1, "fare 1 ", "or", " 1;");
        everyLetterOf(s, 3, "fare ", "not", " 1;");
        for (String value : new String[] {"hops", "deck", "seat", "note"}) {
            everyLetterOf(s, 3, "fare ", value, ";");
        }
        for (String value : new String[] {"hops", "deck", "seat", "note", "near", "left", "new", "fare"}) {
            everyLetterOf(s, 3, "picks ", value, ";");
        }
    }

    private static void everyLetterOf(String s, int fault, String ahead, String word, String behind) {
        for (int i = 0; i < word.length(); i++) {
            String other = word.charAt(i) == 'x' ? "z" : "x";
            Run.of(s).refuses(fault, ahead + "^" + word.substring(0, i) + other + word.substring(i + 1) + behind);
            Run.of(s).refuses(fault, ahead + "^" + word.substring(0, i) + other + word.substring(i) + behind);
        }
        Run.of(s).refuses(fault, ahead + "^" + word + "x" + behind).reads(ahead + word + behind);
    }

    private static void blanksCountForNothing() {
        String s = "blanks (32, 10) between them count for nothing";
        Run.of(s, " \n ride\n5 \n 6\n;\n \nstep 7\n;\n").is(3, "count 0").is(11, "stop 2 0").is(7, "count 4");
        Run.of(s, "\n").is(2, "count 0");
        Run.of(s, "ride 5 6;").is(3, "count 0");
        Run.of(s, "ride 56;").is(2, "count 0").is(56, "stop 1 0");
        Run.of(s).refuses(1, "ride 5^\t6;").refuses(1, "ride 5;^\r\n").refuses(1, "step 5;\n ^.");
    }

    private static void lines() {
        cutBehindEachToken();
        eachLineEndsWithASemicolon();
        textOfSevenHundredBytes();
    }

    private static void cutBehindEachToken() {
        String s = "(the text's length where it ends too soon)";
        String[] lines = {"ride 5 6 ;", "rider 0 1 below 3 note maybe 4 ;", "rider 0 1 above 3 maybe 4 ;", "step 1 ;",
            "stair 1 ;", "take 1 ;", "late 1 ;", "fade 1 ;",
            "fare not ( hops + 1 ) * 2 < 3 - 4 / deck and not not seat = 4 or note ;",
            "picks not ( near + 1 ) * 2 < left - 4 / deck and new = 4 or fare ;"};
        for (String line : lines) {
            String[] words = line.split(" ");
            StringBuilder text = new StringBuilder();
            for (int i = 0; i < words.length - 1; i++) {
                text.append(i == 0 ? "" : " ").append(words[i]);
                Run.of(s).refuses(1, text + "^");
                Run.of(s).refuses(1, text + " \n ^");
                Run.of(s).refuses(1, "step 1;\n".repeat(line.startsWith("step") ? 0 : 1) + text + "^");
            }
            Run.of(s, text + ";").is(-1, "fault");
        }
    }

    private static void eachLineEndsWithASemicolon() {
        String s = "LINE: (..) ';'";
        Run.of(s).refuses(1, "^;").refuses(1, "step 1;^;").refuses(1, "step 1 ^late 1;").refuses(1, "ride 1 ^ride 1;");
        Run.of(s).refuses(1, "fare 1 ^picks 1;").refuses(1, "rider 0 1 below 0 ^rider 0 1 below 1;").refuses(1, "^1;");
        Run.of(s).refuses(1, "step 1;^below;").refuses(1, "^note;").refuses(1, "^maybe 1;").refuses(1, "^not 1;")
                .refuses(1, "^hops;");
        Run.of(s, "step 1;step".substring(0, 7)).is(1, "count 4");
    }

    private static void textOfSevenHundredBytes() {
        String s = "A TEXT of at most 700 bytes";
        String fill = times(" ", 700 - 7) + "step 7;";
        Run.of(s, fill).is(7, "count 4").is(0, "count 14");
        Run.of(s).refuses(1, times(" ", 700 - 6) + "step 7^");
        Run.of(s).refuses(1, times(" ", 699) + "^?");
        // As many parts, signs and brackets as go into it.
        String sum = "rider 0 1 below 0;fare 1" + times("+1", 45) + ";picks 1" + times("*1", 285) + ";";
        Run.of(s, sum).is(46, "rider 0 6").is(1, "count 2");
        String ones = "rider 0 1 below 0;fare " + times("(1)-", 160) + "(0-230);";
        Run.of(s, ones).is(1 - 159 + 230, "rider 0 6");
    }

    // ------------------------------------------------------------------ what an EXPR gives

    private static void gives(String s, int due, String expr) {
        // Rider 0 rides 3 STOPS above on SEAT 7 with a NOTE.
        Run.of(s, "ride 9 9 9 9;rider 1 4 above 7 note;fare " + expr + ";").is(due, "rider 0 6");
    }

    private static void expressions() {
        fromTheLeft();
        intsThatWrap();
        cutDownToZero();
        testsAreOneOrZero();
        valuesOfARider();
        valuesOfPicks();
    }

    private static void fromTheLeft() {
        String s = "From the left";
        gives(s, 5, "9-3-1");
        gives(s, 7, "9-3+1");
        gives(s, 2, "16/4/2");
        gives(s, 8, "16/4*2");
        gives(s, 6, "7*2/2-1");
        gives(s, 1, "0*5=0");
        gives(s, 1, "1 or 0 and 0");
        gives(s, 1, "0 and 0 or 1");
        gives(s, 0, "not 1 and 0");
        gives(s, 1, "not 0 and 1");
        gives(s, 1, "not 1=2");
        gives(s, 0, "not 2=2");
        gives(s, 1, "1<1+1");
        gives(s, 11, "5+(1<2)*6");
        gives(s, 2, "(1<2)+(2<3)");
    }

    private static void intsThatWrap() {
        String s = "ints that wrap";
        // 8192 * 8192 * 32 is 2 to the 31st.
        gives(s, 1, "8192*8192*32<0");
        gives(s, 0, "8192*8192*32-1<0");
        gives(s, 0, "8192*8192*31<0");
        gives(s, 0, "8192*8192*64");
        gives(s, 5, "8192*8192*64+5");
        gives(s, 1, "8192*8192*32-1+1=8192*8192*32");
        gives(s, 1, "0-8192*8192*32=8192*8192*32");
        gives(s, 1, "8192*8192*32/(0-1)=8192*8192*32");
        gives(s, 99, "8192*8192*32-1");
        gives(s, 0, "8192*8192*32");
    }

    private static void cutDownToZero() {
        String s = "/ cut down to 0, by 0 gives 0";
        gives(s, 3, "7/2");
        gives(s, 7, "10+(0-7)/2");
        gives(s, 7, "10+7/(0-2)");
        gives(s, 3, "(0-7)/(0-2)");
        gives(s, 10, "10+(0-1)/2");
        gives(s, 0, "9/0");
        gives(s, 0, "0/0");
        gives(s, 4, "4+9/(hops-3)");
        gives(s, 9, "9/(hops-2)");
    }

    private static void testsAreOneOrZero() {
        String s = "tests, not, and, or are 1 or 0 (what isn't 0 holds)";
        gives(s, 0, "2<2");
        gives(s, 1, "1<2");
        gives(s, 0, "3<2");
        gives(s, 1, "2=2");
        gives(s, 0, "1=2");
        gives(s, 1, "0-1<0");
        gives(s, 0, "not 7");
        gives(s, 0, "not (0-1)");
        gives(s, 1, "not 0");
        gives(s, 1, "not not 7");
        gives(s, 1, "7 and 8");
        gives(s, 1, "(0-1) and 2");
        gives(s, 0, "7 and 0");
        gives(s, 0, "0 and 7");
        gives(s, 1, "7 or 8");
        gives(s, 1, "(0-1) or 0");
        gives(s, 1, "0 or 7");
        gives(s, 0, "0 or 0");
        gives(s, 7, "7");
        gives(s, 7, "((7))");
        gives(s, 1, "1 and 2 and 3");
        gives(s, 1, "0 or 0 or 3");
        gives(s, 0, "not not not not not 1");
        gives(s, 1, "not not not not not not 1");
    }

    private static void valuesOfARider() {
        String s = "VALUES of a RIDER";
        gives(s, 3, "hops");
        gives(s, 1, "deck");
        gives(s, 7, "seat");
        gives(s, 1, "note");
        Run.of(s, "rider 0 1 below 0;fare hops*1+deck*10+seat*20+note*40;").is(1, "rider 0 6").call("sit 0 1 2")
                .is(51, "rider 0 6");
        String t = "3 any word where a PART must stand that is no VALUE of this EXPR";
        Run.of(t).refuses(3, "fare ^near;").refuses(3, "fare ^left;").refuses(3, "fare ^new;")
                .refuses(3, "fare ^fare;");
        Run.of(t).refuses(3, "fare 1+^near;").refuses(3, "fare (^left);").refuses(3, "fare not ^new;")
                .refuses(3, "fare 1<^fare;");
        Run.of(t).refuses(3, "fare 1 and ^near;").refuses(3, "fare 1 or ^near;").refuses(3, "fare 2*^near;");
        Run.of(t).refuses(3, "picks ^ride;").refuses(3, "picks ^below;").refuses(3, "picks ^picks;")
                .refuses(3, "picks ^hop;");
        Run.of(t).refuses(3, "picks ^and;").refuses(3, "picks ^or;").refuses(3, "picks 1 or ^or;")
                .refuses(3, "picks 1+^not 1;");
        Run.of(t).refuses(3, "picks 2*^not 1;").refuses(3, "picks 1=^not 1;").refuses(3, "picks (^maybe");
        // No PART must stand behind a PART: there a word can't stand.
        Run.of(t).refuses(1, "picks 1 ^near;").refuses(1, "picks near ^goose;").refuses(1, "picks (1) ^not 1;")
                .refuses(1, "fare 1 ^fare;");
        Run.of(t, "picks near+left+new+fare+hops+deck+seat+note;fare hops+deck+seat+note;").is(1, "count 2");
    }

    private static void valuesOfPicks() {
        String s = "of PICKS besides: 'near', 'left', 'new', 'fare'";
        // Ahead of rider 1 is only who has another of these.
        String two = "ride 60 60 60;rider 0 2 below 5;rider 0 3 below 1;take 20;";
        Run.of(s, two + "picks near=5;").call("obey 0").is(0, "ting 0");
        Run.of(s, two + "picks near=1;").call("obey 0").is(1, "ting 0");
        Run.of(s, two + "picks left=2;").call("obey 0").is(0, "ting 0");
        Run.of(s, two + "picks left=3;").call("obey 0").is(1, "ting 0");
        Run.of(s, two + "picks (new=0)*seat;").call("obey 0").is(0, "ting 0");
        Run.of(s, two + "picks 0-(new=0)*seat;").call("obey 0").is(1, "ting 0");
        Run.of(s, two + "picks fare=4;").call("obey 0").is(0, "ting 0");
        Run.of(s, two + "picks fare=6;").call("obey 0").is(1, "ting 0");
        Run.of(s, two + "fare seat;picks fare=1;").call("obey 0").is(1, "ting 0");
        Run.of(s, two + "picks fare=1;fare seat;").call("obey 0").is(1, "ting 0");
    }

    // ------------------------------------------------------------------ faults

    private static void faults() {
        theFirstAlongTheText();
        ofOneTokenTheLeast();
        withinSixOthers();
        theSeventhNot();
        aSecondWord();
        rideBehindARider();
    }

    private static void theFirstAlongTheText() {
        String s = "FAULTS, the first along the text, at a TOKEN's first byte";
        Run.of(s).refuses(2, "step ^10;goose;").refuses(1, "^goose;step 10;").refuses(2, "step ^10 ?;");
        Run.of(s).refuses(3, "fare ^goose+12345;").refuses(2, "fare ^12345+goose;").refuses(2, "ride ^0 0;");
        Run.of(s).refuses(5, "step 1;^step 10;").refuses(2, "step ^10;step 1;")
                .refuses(6, "rider 0 1 below 0;^ride 0;");
        Run.of(s).refuses(4, "rider 0 1 below 0;rider 0 1 below ^0 maybe 11;").refuses(2, "rider ^2 0 below 10;");
        Run.of(s).refuses(1, "   ^goose;").refuses(1, "step   ^goose;").refuses(2, "step   ^0010;");
    }

    private static void ofOneTokenTheLeast() {
        String s = "of one TOKEN the least";
        Run.of(s).refuses(1, "^12345;").refuses(1, "step 1 ^12345;").refuses(1, "rider 0 1 ^12345 0;");
        Run.of(s).refuses(1, "rider 0 1 below 0 ^12345;").refuses(1, "fare 1 ^12345;").refuses(1, "fare (1 ^12345);");
        Run.of(s).refuses(2, "fare ((((((^goose;").refuses(2, "fare ((((((^near;").refuses(2, "fare ((((((^12345;");
        Run.of(s).refuses(2, "rider 0 1 below 0;rider 0 1 below ^00000;");
        Run.of(s).refuses(2, "picks " + times("not ", 6) + "^not 1;");
    }

    private static void withinSixOthers() {
        String s = "the first TOKEN of an EXPR within 6 others (a NUMBER, any word, a parenthesis)";
        for (String word : new String[] {"fare ", "picks "}) {
            Run.of(s, word + "(((((1)))));").is(-1, "fault");
            Run.of(s, word + "(((((hops)))));").is(-1, "fault");
            Run.of(s).refuses(2, word + "((((((^1))))));").refuses(2, word + "((((((^hops))))));");
            Run.of(s).refuses(2, word + "((((((^goose))))));").refuses(2, word + "((((((^not 1))))));");
            Run.of(s).refuses(2, word + "((((((^(1)))))));").refuses(2, word + "((((((^or");
            Run.of(s).refuses(2, word + "1+((((2*((^1))))));")
                    .refuses(2, word + "not (not (not (not (not (not (^1))))));");
            Run.of(s).refuses(1, word + "((((((^)").refuses(1, word + "((((((^;").refuses(1, word + "((((((^+1");
            Run.of(s).refuses(1, word + "((((((^?").refuses(1, word + "((((((^");
            Run.of(s, word + "(((((1)))))+(((((2)))))*(((((3)))));").is(-1, "fault");
            Run.of(s).refuses(2, word + "(((((1)))))+((((((^2))))));");
        }
    }

    private static void theSeventhNot() {
        String s = "the seventh 'not' side by side";
        Run.of(s, "fare " + times("not ", 6) + "1;").is(-1, "fault");
        Run.of(s).refuses(2, "fare " + times("not ", 6) + "^not 1;").refuses(2, "fare " + times("not ", 6) + "^not");
        Run.of(s).refuses(3, "fare " + times("not ", 6) + "^goose;").refuses(1, "fare " + times("not ", 6) + "^;");
        Run.of(s).refuses(3, "fare " + times("not ", 6) + "^nots 1;");
        Run.of(s, "fare " + times("not ", 6) + "(" + times("not ", 6) + "1);").is(-1, "fault");
        Run.of(s, "fare " + times("not ", 6) + "1 or " + times("not ", 6) + "1 and " + times("not ", 6) + "1;")
                .is(-1, "fault");
        Run.of(s).refuses(2, "fare 1 and " + times("not ", 6) + "^not 1;")
                .refuses(2, "fare (" + times("not\n", 6) + "^not 1);");
    }

    private static void aSecondWord() {
        String s = "5 a second 'ride', 'step', 'stair', 'take', 'late', 'fade', 'fare'";
        for (String word : new String[] {"ride", "step", "stair", "take", "late", "fade", "fare"}) {
            Run.of(s).refuses(5, word + " 1;^" + word + " 1;").refuses(5, word + " 1;picks 1;^" + word);
            // In a text ahead of it that has a FAULT, or in another bus, it doesn't count.
            Run.of(s).refuses(1, word + " 1^").reads(word + " 1;").reads(word + " 1;").is(-1, "fault");
        }
        Run.of(s, "ride 1;step 1;stair 1;take 1;late 1;fade 1;fare 1;picks 1;picks 1;rider 0 1 below 0;")
                .is(1, "count 1");
    }

    private static void rideBehindARider() {
        String s = "6 'ride' behind a RIDER (ahead of 5)";
        Run.of(s).refuses(6, "rider 0 1 below 0;^ride 1;").refuses(6, "ride 1;rider 0 1 below 0;^ride 1;");
        Run.of(s).refuses(6, "rider 0 1 below 0;step 1;^ride").refuses(6, RIDERS_12 + "^ride 1;");
        Run.of(s).refuses(5, "ride 1;^ride 1;rider 0 1 below 0;");
        Run.of(s, "step 1;picks 1;fare 1;ride 7;rider 0 1 below 0;").is(7, "stop 1 0");
        // A RIDER of the bus ahead, or of a text with a FAULT, doesn't count.
        Run.of(s, "rider 0 1 below 0;").refuses(1, "rider 0 1 below 0;^;").reads("ride 7;").is(7, "stop 1 0")
                .is(0, "count 1");
    }

    // ------------------------------------------------------------------ promises 1 to 4

    private static void newObject() {
        Run.of("Two STOPS, no RIDERS").is(2, "count 0").is(0, "count 1", "count 2")
                .is(-1, "count 3", "fault", "undo", "best")
                .is(0, "restore", "count 9", "count 10", "count 11", "count 12", "count 13", "count 14", "count 15",
                "count 16", "count 17")
                .is(0, "most 0", "most 1", "soonest 0", "two 0", "two 1", "flat", "again 0", "again 1", "door 0",
                "door 1", "bell 0 0", "bell 1 1")
                .is(99, "door 2").is(60, "pace", "walk 1", "stop 1 0").is(1, "fits 0", "mean 1")
                .is(0, "fits 1", "fits 2", "mean 0")
                .noSuch("rider 0 0", "paid 0 0", "way 0 0", "ting 0", "dodge 0 0", "worth 0", "likely 0 0", "sit 0 0 0",
                "game 0 0 0")
                .illegal("soonest 1", "bus 1", "bus -1", "where 61", "where -1");
    }

    private static void feed() {
        String s = "NONE, and none come, if it would have more than 700";
        Run full = Run.of(s).feeds("step 7;" + times(" ", 680 - 7)).is(680, "count 14");
        full.is(700, "feed 0 0 0 0 0").is(-1, "feed 1 1 1 1 1", "feed 0 0 0 0 0").is(700, "count 14");
        full.illegal("bus 701").is(0, "bus 680").is(7, "count 4").is(0, "count 14").is(20, "feed 0 0 0 0 0");
        Run.of("STATUS doesn't count it").feeds(times(" ", 700)).is(-1, "feed 1 1 1 1 1")
                .is(0, "count 15", "count 16", "count 17");
        String t = "Twenty bytes come behind the tape, of each number the highest first: how many it has";
        // "ride" "r 0 " "1 be" "low " "3;  "
        Run.of(t).is(20, "feed 1919509605 1914712096 824205925 1819244320 859512864").is(40, "feed 0 0 0 0 0")
                .is(0, "bus 18").is(3, "rider 0 3");
        // Bytes above 127, in each place of a number.
        for (int shift = 0; shift < 32; shift += 8) {
            int number = 0x20202020 & ~(255 << shift) | 200 << shift;
            Run.of(t).is(20, "feed 538976288 " + number + " 538976288 -1 -2147483648").is(1, "bus 20")
                    .is(4 + (24 - shift) / 8, "fault");
        }
        // What comes behind a BUS begins anew.
        Run.of(t).feeds("step 3;").is(0, "bus 7").feeds("step 4;").is(20, "count 14").is(0, "bus 7").is(4, "count 4");
    }

    private static void bus() {
        String s = "The tape's first n bytes (it is empty then)";
        Run.of(s).feeds("step 3;late 7;").is(0, "bus 7").is(3, "count 4").is(6, "count 7").is(0, "count 14")
                .illegal("bus 1");
        Run.of(s).feeds("step 3;late 7;").is(1, "bus 13").is(0, "count 14").illegal("bus 1").is(13, "fault");
        Run.of(s).feeds("step 3;goose").is(0, "bus 7").is(0, "count 14");
        Run.of(s).feeds("step 3;").is(0, "bus 0").is(1, "count 4").is(0, "count 14", "bus 0");
        Run.of(s).feeds("step 3;").is(0, "bus 20").is(3, "count 4");
        String t = "IllegalArgumentException: the tape has not so many, n below 0 (nothing changes)";
        Run.of(t).refuses(1, "^goose").feeds("step 3;").call("hold 0 5")
                .illegal("bus 21", "bus -1", "bus 2147483647", "bus -2147483648")
                .is(20, "count 14").is(1, "count 15", "count 4").is(0, "fault").is(5, "stop 0 1").is(1, "count 12")
                .is(0, "bus 20");
        all();
    }

    private static void all() {
        String text = "ride 5 6 7;rider 1 3 above 4 note maybe 3;picks hops;step 2;stair 3;take 4;late 9;fade 8;fare 7;";
        String s = "or the FAULT (all stays)";
        Run stays = Run.of(s, text).call("hold 1 5", "sit 0 0 6", "obey 0", "head 1 0 1", "image", "hold 1 6");
        stays.refuses(1, "ride 1;rider 0 1 below 0;picks 1;step 1;stair 1;take 1;late 1;fade 1;fare 1;^?");
        stays.is(4, "count 0").is(1, "count 1", "count 2").is(0, "count 3").is(2, "count 4").is(3, "count 5")
                .is(4, "count 6")
                .is(9, "count 7").is(8, "count 8").is(4, "count 12").is(1, "count 13", "count 15")
                .row("rider 0", 1, 3, 0, 6, 1, 3, 7);
        stays.is(6, "stop 1 1").is(5, "stop 1 0").is(17, "stop 2 0").is(1, "restore").is(5, "stop 1 1")
                .is(3, "count 12");
        String t = "ACTS, what is COUNTED, the image are gone (STATUS stays)";
        Run gone = Run.of(t, text)
                .call("hold 1 5", "sit 0 0 6", "obey 0", "head 1 0 1", "image", "hold 1 61", "hold 1 -1",
                "head 0 2 0", "head 0 3 0", "head 0 0 13").refuses(1, "^?");
        gone.reads("ride 5 6 7;rider 1 3 above 4;picks 1;").is(0, "stop 1 1", "count 12", "count 13", "restore")
                .is(-1, "undo", "count 3")
                .is(1, "count 15", "rider 0 2").is(2, "count 16").is(3, "count 17").is(4, "rider 0 3")
                .is(4, "rider 0 6").is(-1, "fault");
        gone.is(0, "bus 0").is(1, "count 15").is(2, "count 16").is(3, "count 17").is(2, "count 0")
                .is(0, "count 1", "count 2");
    }

    private static void allAnew() {
        String s = "are a BUS, all anew";
        String full = "ride 9 8 7 6 5 4 3 2 1 2 3;step 2;stair 3;take 2;late 30;fade 40;fare hops*9-seat*4;"
                + "picks near*left-fare+new;picks seat<5 or deck and not note;picks not not 7;picks 0-left;";
        StringBuilder riders = new StringBuilder();
        for (int i = 0; i < 12; i++) {
            riders.append("rider ").append(i % 3).append(i < 3 ? " 5" : " 11").append(i < 6 ? " below " : " above ")
                    .append(i % 6 + i % 3)
                    .append(i % 4 == 0 ? " note" : "").append(i % 5 == 0 ? " maybe 5" : "").append(';');
        }
        String[] texts = {"", "ride 30 30;rider 0 2 below 2;rider 1 2 below 1 maybe 0;",
                "rider 0 1 below 0;fare 1;picks 1;",
            "rider 0 1 above 9;rider 0 1 above 3 note;rider 0 1 below 3 maybe 0;fare hops;picks near;late 60;",
                    "ride 5 5 5 5;picks not 1;fare not 1;"};
        for (String text : texts) {
            Run run = Run.of(s);
            for (int i = 0; i < 4; i++) {
                // The full one again and again: whatever is kept inside, it has been there.
                run.reads(full + riders).sameAs(Run.of(s, full + riders), Run.questions(12, 12));
                run.call("hold 0 60", "hold 11 60", "sit 0 1 9", "obey 3", "head 0 0 3", "image", "obey 1");
            }
            Run twin = Run.of(s, text);
            run.reads(text).sameAs(twin, Run.questions(5, 3)).is(0, "count 15", "count 16", "count 17", "restore")
                    .is(-1, "undo");
            run.call("hold 0 9", "obey 0").sameAs(twin.call("hold 0 9", "obey 0"), Run.questions(5, 3));
        }
        // What a rule had behind its end is no part of the next one.
        String one = "rider 0 1 below 0;fare ";
        Run.of(s, one + "not 1;").reads(one + "not 1;").is(0, "rider 0 6").reads(one + "1;").is(1, "rider 0 6")
                .reads(one + "2;").is(2, "rider 0 6");
        // Long rules again and again.
        Run again = Run.of(s);
        for (int i = 0; i < 9; i++) {
            again.reads("rider 0 1 below 0;picks 1" + times("*1", 280) + ";fare 1" + times("+1", 45) + ";")
                    .is(46, "rider 0 6");
        }
    }

    private static void fault() {
        String s = "The place of the latest bus()'s FAULT; NONE without";
        Run.of(s).is(-1, "fault").refuses(1, "^;").is(0, "fault").refuses(1, "step ^;").is(5, "fault")
                .illegal("bus 1").is(5, "fault").reads("step 1;").is(-1, "fault").refuses(2, "step ^10;").is(5, "fault")
                .is(0, "bus 0").is(-1, "fault");
        Run.of("STATUS: 0 of TEXTS with a FAULT").refuses(1, "^;").refuses(2, "step ^10;").reads("")
                .refuses(3, "fare ^x;")
                .illegal("bus 21").is(3, "count 15").is(0, "count 16", "count 17");
    }
}
