/** Promises 18 to 20: type, clear, run. */
final class ScriptTest {
    public static void main(String[] args) {
        typing();
        faults();
        faultsChangeNothing();
        goodTexts();
        calls();
        units();
        Due.end();
    }

    private static void typing() {
        RoomKeeper x = new RoomKeeper();
        long before = x.digest();
        for (int letter : new int[] {-1, 128, Integer.MIN_VALUE, Integer.MAX_VALUE}) {
            Due.error(x, "type(" + letter + ")", x.type(letter), -2, before);
        }
        for (int i = 0; i < 100; i++) {
            Due.is("type", x.type(i == 0 ? 0 : 127), i + 1);
        }
        before = x.digest();
        Due.error(x, "type into a full text", x.type(32), -4, before);
        Due.error(x, "a bad byte into a full text", x.type(128), -2, before);
        Due.is("bytes", x.count(13), 100);
        Due.is("clear", x.clear(), 100);
        Due.is("bytes", x.count(13), 0);
        Due.is("clear again", x.clear(), 0);
        Due.is("type again", x.type(65), 1);
    }

    private static void fault(String text, int place) {
        RoomKeeper x = new RoomKeeper();
        Due.text(x, text);
        Due.is("run of '" + text + "'", x.run(), -2000 - place);
    }

    private static void faults() {
        String[] texts = {"x", " x", ")", "t", "t ", "ta;", "t1", "t1 ", "t1,", "t0;", "t 00 ;", "t000;", "t0000;",
            "t0001;", "t1000;", "t9999;", "t1 2;", "t0", "r", "rm0,1;", "ra", "ra5,1;", "ra0", "ra0;", "ra0,", "ra0,0;",
            "ra0,1", "ra0,1)", "ra00,1;", "w", "wm;", "wa", "wa,", "lA;", "c0;", "ca", "ca)", "1", "1 ", "1t1;", "0(",
            "51(t1;)", "50(", "051(", "0501(", "051", "99x", "1(", "1(t1;", "1(t1;))", "2()x", "1 2(", "R", "(", ";",
            "1(1(1(1(1(t1;)))))", "1(1(1(1(1 (", "1(1(1(1(1", "1(1(1(1(51(", "1(1(1(1(1;", "1(1(1(1()1(", "t1;;",
            "t1;\0", "r\tb0,1;", "w a ; l", "t1;51(0(", "1(x"};
        int[] places = {0, 1, 0, 1, 2, 1, 2, 3, 2, 1, 2, 1, 1,
            1, 4, 4, 3, 1, 1, 1, 2, 2, 3, 3, 4, 4,
            5, 5, 3, 1, 1, 2, 2, 1, 1, 2, 2, 1, 2, 1, 0,
            0, 3, 0, 3, 0, 0, 2, 5, 6, 3, 2, 0, 0, 0,
            9, 10, 9, 8, 9, 11, 3,
            3, 1, 7, 3, 2};
        Due.is("texts with faults", texts.length, places.length);
        for (int i = 0; i < texts.length && i < places.length; i++) {
            fault(texts[i], places[i]);
        }
        StringBuilder blanks = new StringBuilder();
        for (int i = 0; i < 99; i++) {
            blanks.append(' ');
        }
        fault(blanks + "t", 100);
        fault(blanks.substring(1) + "wa", 100);
        fault(blanks.substring(1) + "t1", 100);
        fault(blanks + "x", 99);
        fault("1(" + blanks.substring(2), 99);
    }

    private static void faultsChangeNothing() {
        RoomKeeper x = new RoomKeeper();
        Due.text(x, "ra0,5;");
        Due.is("a good script", x.run(), 1);
        Due.text(x, "t5;x");
        long before = x.digest();
        Due.error(x, "a fault behind a good step", x.run(), -2003, before);
        Due.is("time", x.count(0), 0);
        Due.is("units of the latest script", x.count(14), 1);
        Due.is("the text stays", x.count(13), 4);
        Due.text(x, "2(2(x");
        Due.is("a fault within parentheses", x.run(), -2004);
        Due.text(x, "t5;");
        Due.is("a fault is forgotten with its text", x.run(), 1);
        Due.text(x, "1(1(1(1())))");
        Due.is("and so is the depth", x.run(), 0);
    }

    private static int good(RoomKeeper x, String text, int good, int units, int time) {
        Due.text(x, text);
        Due.is("run of '" + text + "'", x.run(), good);
        Due.is("units of '" + text + "'", x.count(14), units);
        Due.is("time after '" + text + "'", x.count(0), time);
        Due.is("the text stays", x.count(13), text.length());
        return time;
    }

    private static void goodTexts() {
        RoomKeeper x = new RoomKeeper();
        good(x, "", 0, 0, 0);
        good(x, "   ", 0, 0, 0);
        good(x, "t007;", 1, 1, 7);
        good(x, " t 1 ; ", 1, 1, 8);
        good(x, "t999;t993;", 2, 2, 2000);
        good(x, "50()", 0, 50, 2000);
        good(x, "050 ( ) ", 0, 50, 2000);
        good(x, "1(1(1(1())))", 0, 4, 2000);
        good(x, "1(1(1(1(t1;)1(t1;)))1(1(t1;)))", 3, 10, 2003);
        good(x, "2(3(t1;)t10;)t100;", 9, 17, 2129);
        good(x, " r  l  4 , 999 ; w l ; l l;c  l;", 2, 4, 2129);
        Due.is("member 11 was let in and out", x.room(4, 6), 1);
    }

    private static void calls() {
        RoomKeeper x = new RoomKeeper();
        good(x, "ra0,20;rb0,30;rc1,40;rd4,50;t3;wc;lb;ca;t1;", 9, 9, 4);
        Due.is("a has collapsed", x.member(0, 0), 3);
        Due.is("at 3", x.member(0, 2), 3);
        Due.is("b is away", x.member(1, 0), 0);
        Due.is("c is away", x.member(2, 0), 0);
        Due.is("d waits for room 4", x.member(3, 1), 4);
        Due.is("with 50 ticks", x.member(3, 3), 50);
        good(x, "ra0,1;wa;la;ca;wl;lb;rl2,7;", 1, 7, 4);
        Due.is("l waits for room 2", x.member(11, 1), 2);
        RoomKeeper y = new RoomKeeper();
        good(y, "21(t999;)", 20, 42, 19980);
        good(y, "3(t20;)", 1, 6, 20000);
        RoomKeeper z = new RoomKeeper();
        good(z, "ra0,9;rb1,9;wb;", 3, 3, 0);
    }

    private static void units() {
        RoomKeeper x = new RoomKeeper();
        // 28 times 7 units and 3 calls; then a repetition, one within it, its call, and one more repetition.
        good(x, "50(3(t1;))", 85, 200, 85);
        RoomKeeper y = new RoomKeeper();
        good(y, "50(t1;t1;t1;)", 150, 200, 150);
        good(y, "50(t1;t1;t1;)t9;", 150, 200, 300);
        good(y, "49(t1;t1;t1;)t9;t9;t9;t9;t9;", 151, 200, 300 + 147 + 36);
        RoomKeeper z = new RoomKeeper();
        good(z, "50(50(50(50())))t5;", 0, 200, 0);
        good(z, "50(wa;la;ca;)", 0, 200, 0);
        good(z, "2()", 0, 2, 0);
    }
}
