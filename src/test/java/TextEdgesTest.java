/** Promises 18 to 20: the text, what can stand at each of its places, its faults, and the units of a script. */
final class TextEdgesTest {
    private static final String MEMBERS = "abcdefghijkl", ROOMS = "01234", DIGITS = "0123456789", NOT_0 = "123456789";
    private static final String STEPS = "rwlct" + NOT_0;

    public static void main(String[] args) {
        typing();
        clearing();
        everyByteAsText();
        everyByteAtEveryPlace();
        membersAndRooms();
        numbers();
        numbersBeforeParentheses();
        depth();
        blanks();
        textsThatEndTooEarly();
        emptyTexts();
        leastIndex();
        whatStepsStandFor();
        textStays();
        errorsArePassedOver();
        unitsOfCalls();
        unitsOfRepetitions();
        lastUnit();
        latestScript();
        Due.end();
    }

    private static int answer(String text) {
        return Scenes.withText(text).run();
    }

    private static void fault(String text, int place) {
        Due.is("run of '" + text + "'", answer(text), -2000 - place);
    }

    private static void noFault(String text) {
        Due.isTrue("'" + text + "' has no fault", answer(text) >= 0);
    }

    private static void typing() {
        Due.says("Appends a byte to the text. - `letter`: 0 to 127 Returns the length of the text then; BAD; FULL if "
            + "it has 100 bytes.");
        RoomKeeper x = new RoomKeeper();
        Due.is("-1", x.type(-1), -2);
        Due.is("128", x.type(128), -2);
        for (int i = 0; i < 100; i++) {
            Due.is("byte " + i, x.type(i % 2 == 0 ? 0 : 127), i + 1);
            Due.is("length", x.count(13), i + 1);
        }
        Due.is("a 101st byte", x.type(0), -4);
        Due.is("not even a byte: what comes first", x.type(-1), -2);
        Due.is("length", x.count(13), 100);
        for (int letter = 0; letter < 128; letter++) {
            RoomKeeper y = new RoomKeeper();
            long before = y.digest();
            Due.is("type(" + letter + ")", y.type(letter), 1);
            RoomKeeper z = new RoomKeeper();
            z.type(letter == 127 ? 0 : letter + 1);
            Due.isTrue("another letter is another text", y.digest() != z.digest() && y.digest() != before);
        }
    }

    private static void clearing() {
        Due.says("Empties the text. Returns the length that it had.");
        RoomKeeper x = new RoomKeeper();
        Due.is("an empty text", x.clear(), 0);
        x.type('t');
        Due.is("one byte", x.clear(), 1);
        Due.is("empty now", x.clear(), 0);
        Scenes.type(x, Scenes.repeated(" ", 100));
        Due.is("a full text", x.clear(), 100);
        Due.is("there is room again", x.type('w'), 1);
        Due.is("and nothing of the old text", x.run(), -2001);
        Due.is("no unit was used", x.count(14), 0);
    }

    private static void everyByteAsText() {
        Due.says("There is a text of at most 100 bytes, which describes a script: script = { step }");
        places("", STEPS + " ");
        places(" ", STEPS + " ");
        places("wa;", STEPS + " ");
        places("1()", STEPS + " ");
        places("1(", STEPS + " )");
        places("1(wa;", STEPS + " )");
        places("1(1()", STEPS + " )");
    }

    /** Each of the 128 bytes behind the beginning: if it can stand there, the text is good or ends too early. */
    private static void places(String beginning, String allowed) {
        for (int letter = 0; letter < 128; letter++) {
            String text = beginning + (char) letter;
            int got = answer(text);
            if (allowed.indexOf(letter) < 0) {
                Due.is("byte " + letter + " behind '" + beginning + "'", got, -2000 - beginning.length());
            } else {
                Due.isTrue("byte " + letter + " can stand behind '" + beginning + "': " + got,
                    got == -2000 - text.length() || got >= 0);
            }
        }
    }

    private static void everyByteAtEveryPlace() {
        Due.says("step = \"r\" member room \",\" number \";\" | \"w\" member \";\" | \"l\" member \";\" | \"c\" "
            + "member \";\" | \"t\" number \";\" | number \"(\" { step } \")\"");
        for (String begin : new String[] {"r", "w", "l", "c", "r ", "w ", "1(l", "t1;c"}) {
            places(begin, MEMBERS + " ");
        }
        places("ra", ROOMS + " ");
        places("ra ", ROOMS + " ");
        places("rl4", ", ");
        places("ra0 ", ", ");
        places("ra0,", NOT_0 + " ");
        places("ra0, ", NOT_0 + " ");
        places("ra0,1", DIGITS + "; ");
        places("ra0,12", DIGITS + "; ");
        places("ra0,123", "; ");
        places("ra0,1 ", "; ");
        for (String begin : new String[] {"wa", "ll", "ck", "wa "}) {
            places(begin, "; ");
        }
        places("t", NOT_0 + " ");
        places("t9", DIGITS + "; ");
        places("t99", DIGITS + "; ");
        places("t999", "; ");
        places("t007", "; ");
        places("t1 ", "; ");
        places("1", DIGITS + "( ");
        places("050", "( ");
        places("1 ", "( ");
        places("1( ", STEPS + ") ");
        places("1(2(3(4(", STEPS + ") ");
        places("1(2(3(4(1", DIGITS + " ");
        places("1(2(3(4(1 ", " ");
        places("1(2(3(4()", STEPS + ") ");
        places("1(2(3(4())))", STEPS + " ");
    }

    private static void membersAndRooms() {
        Due.says("A member is a letter from a to l, for the members 0 to 11; a room is a digit from 0 to 4;");
        for (int m = 0; m < 12; m++) {
            for (int r = 0; r < 5; r++) {
                RoomKeeper x = Scenes.withText("r" + (char) ('a' + m) + r + ",7;");
                Due.is("run", x.run(), 1);
                Due.member(x, m, 2, r, 0, 7, -1);
            }
        }
        fault("r`0,7;", 1);
        fault("rm0,7;", 1);
        fault("rA0,7;", 1);
        fault("r00,7;", 1);
        fault("ra/,7;", 2);
        fault("ra5,7;", 2);
        fault("raa,7;", 2);
        fault("ra00,7;", 3);
        fault("w`;", 1);
        fault("wm;", 1);
        fault("lm;", 1);
        fault("cm;", 1);
    }

    private static void time(String text, int time) {
        RoomKeeper x = Scenes.withText(text);
        Due.is("run of '" + text + "'", x.run(), 1);
        Due.is("time after '" + text + "'", x.count(0), time);
    }

    private static void numbers() {
        Due.says("a number is the longest possible sequence of at most 3 digits, and not 0 (007 is 7; a fourth digit "
            + "cannot stand);");
        time("t1;", 1);
        time("t9;", 9);
        time("t10;", 10);
        time("t99;", 99);
        time("t100;", 100);
        time("t999;", 999);
        time("t01;", 1);
        time("t001;", 1);
        time("t007;", 7);
        time("t010;", 10);
        time("t080;", 80);
        fault("t1000;", 4);
        fault("t9999;", 4);
        fault("t0070;", 4);
        fault("t0100;", 4);
        fault("t12345;", 4);
        fault("ra0,1000;", 7);
        fault("t1 1;", 3);
        fault("t-1;", 1);
        fault("t+1;", 1);
        Due.says("(for a number that is 0 or too great, its first byte, where of more than three digits the first "
            + "three count;");
        for (String zero : new String[] {"0", "00", "000", "0000", "0001", "0009", "00000"}) {
            fault("t" + zero + ";", 1);
            fault("t  " + zero + ";", 3);
            fault("t" + zero, 1);
            fault("t" + zero + " ", 1);
            fault("t" + zero + "x", 1);
            fault("ra0," + zero + ";", 4);
            fault("wa;" + zero + "()", 3);
        }
    }

    private static void numbersBeforeParentheses() {
        Due.says("a number at the beginning of a step is that before \"(\", and at most 50.");
        for (int times = 1; times <= 999; times++) {
            String[] written = {Integer.toString(times), String.format("%02d", times), String.format("%03d", times)};
            for (String number : written) {
                RoomKeeper x = Scenes.withText(number + "()");
                Due.is("run of " + number + "()", x.run(), times <= 50 ? 0 : -2000);
                Due.is("repetitions", x.count(14), times <= 50 ? times : 0);
            }
        }
        Due.says("(for a number that is 0 or too great, its first byte, where of more than three digits the first "
            + "three count;");
        fault("0()", 0);
        fault("51", 0);
        fault("51x", 0);
        fault(" 51 (", 1);
        fault("051(", 0);
        fault("0510(", 0);
        fault("5000(", 0);
        fault("0500(", 3);
        fault("0501(", 3);
        fault("0011(", 3);
        fault("0009(", 0);
        fault("1000(", 0);
        fault("wa;1(51(x", 5);
    }

    private static void depth() {
        Due.says("Parentheses are nested at most 4 deep.");
        noFault("1(1(1(1())))");
        noFault("1(1(1(1()1()1())1(1()))1(1(1())))1(1(1(1())))");
        noFault("1(1(1(1(t1;))))");
        Due.says("for a fifth level the parenthesis itself)");
        fault("1(1(1(1(1(t1;)))))", 9);
        fault("1(1(1(1(1()))))", 9);
        fault("1(1(1(1(1(", 9);
        fault("1(1(1(1(50  (", 12);
        fault(" 1 ( 1 ( 1 ( 1 ( 1 (", 19);
        fault("1(1(1(1()))1(1(1(1(", 18);
        fault("1(1(1(1()1(", 11);
        fault("1(1(1(1(t1;)1(1(", 15);
        fault("1(1(1(1(51(", 8);
        fault("1(1(1(1(0(", 8);
        fault("1(1(1(1(1;", 9);
        fault("1(1(1(1(1", 9);
        fault("1(1(1(1(0501(", 11);
        fault("1(1(1(1())))1(1(1(1(1(", 21);
    }

    private static void blanks() {
        Due.says("Blanks (byte 32) can stand before and after letters, rooms, numbers and signs.");
        String[] parts = {"r", "b", "3", ",", "9", ";", "2", "(", "w", "b", ";", "l", "b", ";", ")", "t", "5", ";"};
        for (int i = 0; i <= parts.length; i++) {
            for (String blank : new String[] {" ", "   "}) {
                RoomKeeper x = Scenes.withText(joined(parts, i, blank));
                Due.is("run of '" + joined(parts, i, blank) + "'", x.run(), 3);
                Due.is("units", x.count(14), 8);
                Due.is("time", x.count(0), 5);
            }
            for (int letter : new int[] {0, 9, 10, 11, 12, 13, 31, 33, 95, 127}) {
                String text = joined(parts, i, String.valueOf((char) letter));
                fault(text, text.indexOf(letter));
            }
        }
        RoomKeeper all = Scenes.withText(" " + String.join(" ", parts) + " ");
        Due.is("blanks everywhere", all.run(), 3);
        noFault("t100;");
        fault("t1 00;", 3);
        fault("1 0()", 2);
        fault("t 1 0 ;", 4);
    }

    private static String joined(String[] parts, int at, String between) {
        StringBuilder text = new StringBuilder();
        for (int i = 0; i < parts.length; i++) {
            text.append(i == at ? between : "").append(parts[i]);
        }
        return text.append(at == parts.length ? between : "").toString();
    }

    private static void textsThatEndTooEarly() {
        Due.says("and it is the length of the text if the text ends too early.");
        String text = "rl4,999; wa; la; ca; t1; 50( 9(t2;) 1(1( ) ) )";
        boolean[] isWhole = new boolean[text.length() + 1];
        for (int end : new int[] {0, 8, 9, 12, 13, 16, 17, 20, 21, 24, 25, text.length()}) {
            isWhole[end] = true;
        }
        for (int length = 0; length <= text.length(); length++) {
            String beginning = text.substring(0, length);
            if (isWhole[length]) {
                noFault(beginning);
            } else {
                fault(beginning, length);
            }
        }
        String most = Scenes.repeated(" ", 99);
        fault(most + "r", 100);
        fault(most + "9", 100);
        fault("1(" + most.substring(1), 100);
        fault("1(" + most.substring(2), 99);
        noFault("1(" + most.substring(2) + ")");
        noFault(most + " ");
        noFault(most.substring(2) + "wa;");
        fault(most + "x", 99);
        fault(most + ")", 99);
        fault("x" + most, 0);
    }

    private static void emptyTexts() {
        Due.says("script = { step }");
        for (String text : new String[] {"", " ", "     "}) {
            RoomKeeper x = Scenes.withText(text);
            Due.is("run of '" + text + "'", x.run(), 0);
            Due.is("units", x.count(14), 0);
        }
        RoomKeeper x = Scenes.withText("3( )");
        Due.is("empty parentheses", x.run(), 0);
        Due.is("units", x.count(14), 3);
        fault("()", 0);
        fault("1()()", 3);
    }

    private static void leastIndex() {
        Due.says("The fault of a text is the index, from 0, of the first byte that cannot stand at its place");
        Due.says("If a text has several faults, the one with the least index counts.");
        fault("x", 0);
        fault("xx", 0);
        fault("t1;xx", 3);
        fault("t0;t0;", 1);
        fault("t1;t0;x", 4);
        fault("51(x", 0);
        fault("1(x", 2);
        fault("1(1(t0", 5);
        fault("rm9,0", 1);
        fault("ra9,0", 2);
        fault("ra4.0", 3);
        fault("ra4,0", 4);
        fault("1)", 1);
        fault(")", 0);
        fault("1())(", 3);
        fault("1(t1;))", 6);
        fault(";", 0);
        fault("t1;;", 3);
        fault("t1", 2);
        fault("t1(", 2);
        fault("T1;", 0);
    }

    private static void whatStepsStandFor() {
        Due.says("The steps stand for calls of request() with the member, the room and the ticks; withdraw(); leave(); "
            + "collapse(); pass() with as many ticks; and for repeating what stands in the parentheses that often.");
        RoomKeeper x = Scenes.withText("ra1,20;rl1,999;rb4,30;rc0,1;wc;t7;cl;la;2(t3;3(rd2,5;wd;))");
        RoomKeeper y = new RoomKeeper();
        y.request(0, 1, 20);
        y.request(11, 1, 999);
        y.request(1, 4, 30);
        y.request(2, 0, 1);
        y.withdraw(2);
        y.pass(7);
        y.collapse(11);
        y.leave(0);
        for (int i = 0; i < 2; i++) {
            y.pass(3);
            for (int k = 0; k < 3; k++) {
                y.request(3, 2, 5);
                y.withdraw(3);
            }
        }
        Due.is("run", x.run(), 8 + 2 * (1 + 6));
        Due.is("units", x.count(14), 8 + 2 * (2 + 3 * 3));
        Due.is("time", x.count(0), 13);
        for (int m = 0; m < 12; m++) {
            for (int what = 0; what < 5; what++) {
                Due.is("member", x.member(m, what), y.member(m, what));
            }
        }
        for (int r = 0; r < 5; r++) {
            for (int what = 0; what < 10; what++) {
                Due.is("room", x.room(r, what), y.room(r, what));
            }
        }
        Due.is("events", x.count(12), y.count(12));
    }

    private static void textStays() {
        Due.says("Carries out the script of the text; the text stays.");
        RoomKeeper x = Scenes.withText("t4;");
        for (int i = 1; i <= 5; i++) {
            Due.is("run", x.run(), 1);
            Due.is("time", x.count(0), 4 * i);
            Due.is("length", x.count(13), 3);
        }
        Scenes.type(x, "t1;");
        Due.is("gone on with", x.run(), 2);
        Due.is("time", x.count(0), 25);
    }

    private static void errorsArePassedOver() {
        Due.says("Calls that return an error are passed over. Returns how many calls returned no error; -2000 - p if "
            + "the text has the fault p (nothing is done then).");
        RoomKeeper x = Scenes.withText("wa;la;ca;ra0,9;ra0,9;wa;rb0,9;lb;lb;t1;");
        Due.is("four of ten", x.run(), 4);
        Due.is("units of all ten", x.count(14), 10);
        Due.is("time", x.count(0), 1);
        RoomKeeper late = Scenes.atTime(19990);
        Scenes.type(late, "t11;t5;t6;t5;t1;");
        Due.is("those beyond the last time", late.run(), 2);
        Due.is("time", late.count(0), 20000);
        Due.is("units", late.count(14), 5);
        RoomKeeper y = Scenes.withText("ra0,9;t5;2(t5;");
        Due.is("a fault: nothing is done", y.run(), -2014);
        Due.is("time", y.count(0), 0);
        Due.is("member", y.member(0, 0), 0);
        y.type(')');
        Due.is("without it all is done", y.run(), 4);
        Due.is("time", y.count(0), 15);
        RoomKeeper z = Scenes.withText("ra0,5;la;ra0,5;ca;rb1,9;t9;wb;");
        Due.is("a withdrawal after 9 and answers of 5 are no errors", z.run(), 7);
        RoomKeeper none = Scenes.withText("ra0,5;rb1,9;wb;");
        Due.is("nor is a withdrawal after 0", none.run(), 3);
    }

    private static void units(String text, int good, int units, int time) {
        RoomKeeper x = Scenes.withText(text);
        Due.is("run of '" + text + "'", x.run(), good);
        Due.is("units of '" + text + "'", x.count(14), units);
        Due.is("time after '" + text + "'", x.count(0), time);
    }

    private static void unitsOfCalls() {
        Due.says("A script is carried out step by step. Each call, and each repetition (before its steps, also if "
            + "there are none), uses up 1 of 200 units;");
        units("t1;", 1, 1, 1);
        units("t1;t1;", 2, 2, 2);
        units("wa;la;ca;", 0, 3, 0);
        units(Scenes.repeated("t1;", 33), 33, 33, 33);
        units("49(t1;t1;t1;)t1;t1;t1;", 150, 199, 150);
        units("49(t1;t1;t1;)t1;t1;t1;t1;", 151, 200, 151);
        units("49(t1;t1;t1;)t1;t1;t1;t1;t1;", 151, 200, 151);
        units("49(wa;wa;wa;)wa;wa;wa;wa;t1;", 0, 200, 0);
        units("49(wa;wa;wa;)wa;wa;wa;t1;t1;", 1, 200, 1);
    }

    private static void unitsOfRepetitions() {
        Due.says("each repetition (before its steps, also if there are none)");
        units("1()", 0, 1, 0);
        units("50()", 0, 50, 0);
        units("50()50()50()49()", 0, 199, 0);
        units("50()50()50()50()", 0, 200, 0);
        units("50()50()50()50()1()", 0, 200, 0);
        units("1(1(1(1())))", 0, 4, 0);
        units("2(2(2(2())))", 0, 30, 0);
        units("50(3())", 0, 200, 0);
        units("50(1(1(1())))", 0, 200, 0);
        units("3(t2;)", 3, 6, 6);
    }

    private static void lastUnit() {
        Due.says("when one is needed and none is left, the script ends.");
        units("50()50()50()50()t1;", 0, 200, 0);
        units("50()50()50()49()t1;", 1, 200, 1);
        units("50()50()50()49()t1;t1;", 1, 200, 1);
        units("50()50()50()49()1(t1;)t1;", 0, 200, 0);
        units("50()50()50()48()1(t1;)t1;", 1, 200, 1);
        units("50()50()50()48()2(t1;)t9;", 1, 200, 1);
        units("50()50()50()47()2(t1;)t9;", 1, 200, 1);
        units("50()50()50()46()2(t1;)t9;", 2, 200, 2);
        units("50()50()50()45()2(t1;)t9;", 3, 200, 11);
        units("50(t1;50(t1;))", 100, 200, 100);
        units("2(50(t1;t1;t1;))t9;", 149, 200, 149);
        units("50(50(50(50(t1;))))t9;", 98, 200, 98);
    }

    private static void latestScript() {
        Due.says("14: units that the latest script used up (0 before)");
        RoomKeeper x = new RoomKeeper();
        Due.is("before", x.count(14), 0);
        Due.text(x, "3(t1;)");
        Due.is("typed only", x.count(14), 0);
        x.run();
        Due.is("6", x.count(14), 6);
        x.clear();
        Due.is("the text is gone", x.count(14), 6);
        Due.text(x, "x");
        x.run();
        Due.is("a text with a fault is no script", x.count(14), 6);
        Due.text(x, "50(3())");
        x.run();
        Due.is("200", x.count(14), 200);
        x.run();
        Due.is("200 again: each run has its own", x.count(14), 200);
        x.clear();
        x.run();
        Due.is("an empty script", x.count(14), 0);
    }
}
