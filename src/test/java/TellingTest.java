/** Promises 10 to 14: member, room, queue, event, unfairness. */
final class TellingTest {
    public static void main(String[] args) {
        wrongInputs();
        members();
        rooms();
        queues();
        log();
        unfairness();
        Due.end();
    }

    private static void wrongInputs() {
        RoomKeeper x = new RoomKeeper();
        x.request(0, 0, 5);
        long before = x.digest();
        int[][] members = {{-1, 0}, {12, 0}, {0, -1}, {0, 5}, {12, 5}, {Integer.MIN_VALUE, Integer.MAX_VALUE}};
        for (int[] a : members) {
            Due.error(x, "member(" + a[0] + ", " + a[1] + ")", x.member(a[0], a[1]), -2, before);
        }
        int[][] rooms = {{-1, 0}, {5, 0}, {0, -1}, {0, 10}, {Integer.MAX_VALUE, Integer.MIN_VALUE}};
        for (int[] a : rooms) {
            Due.error(x, "room(" + a[0] + ", " + a[1] + ")", x.room(a[0], a[1]), -2, before);
        }
        int[][] queues = {{-1, 0}, {5, 0}, {0, -1}, {5, 99}, {0, Integer.MIN_VALUE}};
        for (int[] a : queues) {
            Due.error(x, "queue(" + a[0] + ", " + a[1] + ")", x.queue(a[0], a[1]), -2, before);
        }
        int[][] events = {{-1, 0}, {0, -1}, {0, 4}, {99, 4}, {99, -1}, {Integer.MIN_VALUE, 0}};
        for (int[] a : events) {
            Due.error(x, "event(" + a[0] + ", " + a[1] + ")", x.event(a[0], a[1]), -2, before);
        }
        Due.is("queue(0, far)", x.queue(0, Integer.MAX_VALUE), -1);
        Due.is("event(far, 3)", x.event(Integer.MAX_VALUE, 3), -1);
    }

    private static void properties(RoomKeeper x, int m, int... want) {
        for (int what = 0; what < want.length; what++) {
            Due.is("member(" + m + ", " + what + ")", x.member(m, what), want[what]);
        }
    }

    private static void members() {
        RoomKeeper x = new RoomKeeper();
        x.pass(3);
        x.request(4, 2, 30);
        x.pass(1);
        x.request(5, 2, 40);
        x.request(6, 1, 50);
        x.pass(2);
        x.request(7, 1, 60);
        x.request(8, 0, 70);
        x.request(9, 1, 80);
        x.collapse(5);
        x.pass(1);
        properties(x, 4, 2, 2, 3, 26, -1);
        properties(x, 5, 3, 2, 6, 0, -1);
        properties(x, 6, 1, 1, 4, 50, 0);
        properties(x, 7, 1, 1, 6, 60, 1);
        properties(x, 8, 1, 0, 6, 70, 0);
        properties(x, 9, 1, 1, 6, 80, 2);
        properties(x, 10, 0, -1, -1, 0, -1);
        x.withdraw(6);
        properties(x, 7, 1, 1, 6, 60, 0);
        properties(x, 9, 1, 1, 6, 80, 1);
    }

    private static void rooms() {
        RoomKeeper x = new RoomKeeper();
        x.setCapacity(3, 2);
        x.setShare(3, 2);
        x.request(0, 3, 10);
        x.request(1, 3, 4);
        x.request(2, 3, 5);
        x.pass(2);
        x.request(3, 3, 5);
        x.collapse(0);
        x.pass(2);
        // Member 1 has spent 4 ticks, member 0 has spent 2 and lies collapsed; member 2 has come in after waiting 4.
        int[] want = {2, 2, 1260, 2, 1, 1, 3, 6, 4, 4};
        for (int what = 0; what < want.length; what++) {
            Due.is("room(3, " + what + ")", x.room(3, what), want[what]);
        }
        x.pass(5);
        // At 9 member 2 has spent its 5 and member 3 comes in after waiting 7.
        int[] then = {2, 2, 1260, 2, 0, 1, 4, 11, 11, 7};
        for (int what = 0; what < then.length; what++) {
            Due.is("then room(3, " + what + ")", x.room(3, what), then[what]);
        }
        Due.is("another room", x.room(2, 6), 0);
    }

    private static void queues() {
        RoomKeeper x = new RoomKeeper();
        x.request(0, 0, 9);
        int[] order = {7, 3, 11, 1};
        for (int m : order) {
            x.request(m, 2, 9);
            x.request(m - 1 == 0 ? 2 : m - 1, 4, 9);
        }
        for (int i = 0; i < 4; i++) {
            Due.is("queue(2, " + i + ")", x.queue(2, i), order[i]);
        }
        Due.is("behind the queue", x.queue(2, 4), -1);
        Due.is("first of the other queue", x.queue(4, 0), 6);
        Due.is("second of the other queue", x.queue(4, 1), 2);
        Due.is("third of the other queue", x.queue(4, 2), 10);
        Due.is("2 waits already", x.queue(4, 3), -1);
        Due.is("members that wait", x.count(8), 7);
        x.withdraw(3);
        x.request(3, 2, 9);
        Due.is("who comes again is last", x.queue(2, 3), 3);
        Due.is("the others move up", x.queue(2, 1), 11);
        x.leave(0);
        Due.is("those who enter are no longer in the queue", x.queue(2, 0), 3);
    }

    private static void log() {
        RoomKeeper x = new RoomKeeper();
        for (int i = 0; i < 13; i++) {
            x.pass(1);
            x.request(i % 12, i % 5, 9);
            x.leave(i % 12);
        }
        Due.is("39 events are kept", x.count(11), 39);
        Due.event(x, 0, 1, 0, -1, 0);
        Due.is("no 40th", x.event(39, 0), -1);
        x.request(5, 2, 9);
        Due.is("40 events are kept", x.count(11), 40);
        Due.is("41 have happened", x.count(12), 41);
        Due.event(x, 0, 1, 1, 0, 0);
        Due.event(x, 38, 13, 0, -1, 2);
        Due.event(x, 39, 13, 1, 5, 2);
        Due.is("behind the log", x.event(40, 0), -1);
    }

    private static void unfairness() {
        RoomKeeper x = new RoomKeeper();
        x.setShare(0, 9);
        x.setShare(1, 7);
        x.request(0, 0, 10);
        x.request(1, 0, 3);
        x.pass(10);
        Due.is("with one room", x.unfairness(), 0);
        x.request(0, 1, 4);
        Due.is("a room that is only opened", x.unfairness(), 13 * 2520 / 9);
        x.pass(4);
        Due.is("two rooms", x.unfairness(), 13 * 280 - 4 * 360);
        x.setShare(0, 8);
        Due.is("with the share of today", x.unfairness(), 13 * 315 - 4 * 360);
        x.request(0, 4, 2);
        x.pass(1);
        Due.is("three rooms", x.unfairness(), 13 * 315 - 4 * 360);
        x.pass(1);
        Due.is("the greatest is another one", x.unfairness(), 5040 - 1440);
    }
}
