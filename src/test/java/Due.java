import java.util.concurrent.TimeUnit;

/** Compares answers with those that are due, and ends a test. */
final class Due {
    private static int wrong = 0;
    private static int compared = 0;
    private static String sentence = "";
    private static final long MOST_MINUTES = 10;

    /** A call that does not end must fail its test, which is over in seconds otherwise. */
    static {
        Thread watch = new Thread(() -> {
            try {
                TimeUnit.MINUTES.sleep(MOST_MINUTES);
            } catch (InterruptedException e) {
                return;
            }
            System.out.println("not at its end after " + MOST_MINUTES + " minutes; the document: " + sentence);
            Runtime.getRuntime().halt(1);
        });
        watch.setDaemon(true);
        watch.start();
    }

    private Due() {
    }

    /** What follows tests these words of the document; SentencesTest looks whether they stand there. */
    static void says(String words) {
        sentence = words;
    }

    static void is(String what, long got, long want) {
        compared++;
        if (got != want) {
            wrong++;
            System.out.println(what + ": answered " + got + ", due is " + want);
            if (!sentence.isEmpty()) {
                System.out.println("    the document: " + sentence);
            }
        }
    }

    static void isTrue(String what, boolean holds) {
        is(what, holds ? 1 : 0, 1);
    }

    /** Types a text on a cleared keeper. */
    static void text(RoomKeeper x, String text) {
        x.clear();
        for (int i = 0; i < text.length(); i++) {
            is("type of byte " + i + " of '" + text + "'", x.type(text.charAt(i)), i + 1);
        }
    }

    /** A call that answers with an error must leave everything as it was. */
    static void error(RoomKeeper x, String what, long got, long want, long digestBefore) {
        is(what, got, want);
        is(what + " must change nothing", x.digest(), digestBefore);
    }

    static void event(RoomKeeper x, int i, int time, int kind, int member, int room) {
        is("time of event " + i, x.event(i, 0), time);
        is("kind of event " + i, x.event(i, 1), kind);
        is("member of event " + i, x.event(i, 2), member);
        is("room of event " + i, x.event(i, 3), room);
    }

    /** All properties of a member, from 0 on. */
    static void member(RoomKeeper x, int m, int... want) {
        for (int what = 0; what < want.length; what++) {
            is("member(" + m + ", " + what + ")", x.member(m, what), want[what]);
        }
    }

    /** All properties of a room, from 0 on. */
    static void room(RoomKeeper x, int r, int... want) {
        for (int what = 0; what < want.length; what++) {
            is("room(" + r + ", " + what + ")", x.room(r, what), want[what]);
        }
    }

    /** A whole queue, and nobody behind it. */
    static void queue(RoomKeeper x, int r, int... want) {
        for (int i = 0; i < want.length; i++) {
            is("queue(" + r + ", " + i + ")", x.queue(r, i), want[i]);
        }
        is("behind queue " + r, x.queue(r, want.length), -1);
        is("length of queue " + r, x.room(r, 4), want.length);
    }

    /** The hash that the keeper's own answers make, with the text that was typed. */
    static long digest(RoomKeeper x, String text) {
        long hash = 549;
        for (int what = 0; what <= 14; what++) {
            hash = next(hash, x.count(what));
        }
        for (int m = 0; m < 12; m++) {
            hash = next(hash, x.member(m, 0), x.member(m, 1), x.member(m, 2), x.member(m, 3), x.member(m, 4));
        }
        for (int r = 0; r < 5; r++) {
            for (int what = 0; what <= 9; what++) {
                hash = next(hash, x.room(r, what));
            }
        }
        int kept = x.count(11);
        for (int i = 0; i < kept; i++) {
            hash = next(hash, x.event(i, 0), x.event(i, 1), x.event(i, 2), x.event(i, 3));
        }
        hash = next(hash, x.unfairness(), x.empties());
        for (int i = 0; i < text.length(); i++) {
            hash = next(hash, text.charAt(i));
        }
        return hash;
    }

    static long next(long hash, int... numbers) {
        long then = hash;
        for (int number : numbers) {
            then = 31 * then + number;
        }
        return then;
    }

    static void end() {
        System.out.println(compared + " answers compared, " + wrong + " not as due");
        if (wrong != 0 || compared == 0) {
            System.exit(1);
        }
    }
}
