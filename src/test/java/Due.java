/** Compares answers with those that are due, and ends a test. */
final class Due {
    private static int wrong = 0;
    private static int compared = 0;

    private Due() {
    }

    static void is(String what, long got, long want) {
        compared++;
        if (got != want) {
            wrong++;
            System.out.println(what + ": answered " + got + ", due is " + want);
        }
    }

    /** Types a text on a cleared keeper. */
    static void text(RoomKeeper x, String text) {
        x.clear();
        for (int i = 0; i < text.length(); i++) {
            is("type of byte " + i + " of '" + text + "'", x.type(text.charAt(i)), i + 1);
        }
    }

    /** A call that answers with an error must leave everything as it was. */
    static void error(RoomKeeper x, String what, long got, long want, long digestBefore) {
        is(what, got, want);
        is(what + " must change nothing", x.digest(), digestBefore);
    }

    static void event(RoomKeeper x, int i, int time, int kind, int member, int room) {
        is("time of event " + i, x.event(i, 0), time);
        is("kind of event " + i, x.event(i, 1), kind);
        is("member of event " + i, x.event(i, 2), member);
        is("room of event " + i, x.event(i, 3), room);
    }

    static void end() {
        System.out.println(compared + " answers compared, " + wrong + " not as due");
        if (wrong != 0 || compared == 0) {
            System.exit(1);
        }
    }
}
