/** The log, the statistics, and promises 10 to 14: member, room, queue, event, unfairness. */
final class TellingEdgesTest {
    private static final int MAX = Integer.MAX_VALUE;

    public static void main(String[] args) {
        memberProperties();
        placesInTheQueue();
        roomProperties();
        queuePlaces();
        kindsOfEvents();
        whatIsNoEvent();
        latestEvents();
        logWrapsAround();
        openingsAndEntries();
        ticksSpentInside();
        waitingTimes();
        unfairnessOfFewRooms();
        unfairnessOfRooms();
        greatestUnfairness();
        Due.end();
    }

    private static void memberProperties() {
        Due.says("Returns a property of a member. - `member`: the member - `what`: 0: its state; 1: its room (NONE if "
            + "it is away); 2: the time of its request, or when it entered, or collapsed (NONE if it is away); 3: the "
            + "ticks that its request says and, inside, that it has left (0 if it is away or collapsed); 4: the number "
            + "of members before it in the queue (NONE if it is not waiting) Returns the property; BAD.");
        RoomKeeper x = new RoomKeeper();
        Due.member(x, 11, 0, -1, -1, 0, -1, -2);
        Due.is("what -1", x.member(11, -1), -2);
        Due.is("member -1", x.member(-1, 0), -2);
        Due.is("member 12", x.member(12, 0), -2);
        x.request(0, 4, 6);
        Due.member(x, 0, 2, 4, 0, 6, -1, -2);
        x.pass(1);
        x.request(11, 0, 999);
        Due.member(x, 0, 2, 4, 0, 5, -1, -2);
        Due.member(x, 11, 1, 0, 1, 999, 0, -2);
        x.pass(4);
        Due.member(x, 0, 2, 4, 0, 1, -1, -2);
        Due.member(x, 11, 1, 0, 1, 999, 0, -2);
        x.pass(1);
        Due.member(x, 0, 0, -1, -1, 0, -1, -2);
        Due.member(x, 11, 2, 0, 6, 999, -1, -2);
        x.pass(2);
        x.collapse(11);
        Due.member(x, 11, 3, 0, 8, 0, -1, -2);
        x.pass(9);
        Due.member(x, 11, 3, 0, 8, 0, -1, -2);
        x.pass(1);
        Due.member(x, 11, 0, -1, -1, 0, -1, -2);
    }

    private static void placesInTheQueue() {
        Due.says("4: the number of members before it in the queue (NONE if it is not waiting)");
        RoomKeeper x = new RoomKeeper();
        x.setCapacity(0, 1);
        x.request(11, 0, 99);
        for (int m = 0; m < 11; m++) {
            x.request(m, m % 2, 99);
        }
        for (int m = 0; m < 11; m++) {
            Due.is("before member " + m, x.member(m, 4), m / 2);
        }
        x.withdraw(0);
        x.withdraw(5);
        int[] before = {-1, 0, 0, 1, 1, -1, 2, 2, 3, 3, 4, -1};
        for (int m = 0; m < 12; m++) {
            Due.is("before member " + m + " then", x.member(m, 4), before[m]);
        }
    }

    private static void roomProperties() {
        Due.says("Returns a property of a room. - `room`: the room - `what`: 0: its capacity; 1: its share; 2: its "
            + "score; 3: members inside, collapsed ones included; 4: members in its queue; 5: how often it was opened; "
            + "6: entries; 7: ticks spent inside; 8: the sum of waiting times; 9: the greatest waiting time Returns "
            + "the property; BAD.");
        for (int r = 0; r < 5; r++) {
            RoomKeeper x = new RoomKeeper();
            Due.is("what -1", x.room(r, -1), -2);
            Due.room(x, r, 3, 1, 0, 0, 0, 0, 0, 0, 0, 0, -2);
            x.setCapacity(r, 2);
            x.setShare(r, 3);
            x.request(0, (r + 1) % 5, 4);
            x.request(1, r, 7);
            x.pass(1);
            x.request(2, r, 7);
            x.request(3, r, 7);
            Due.room(x, r, 2, 3, 0, 0, 3, 0, 0, 0, 0, 0, -2);
            x.pass(3);
            Due.room(x, r, 2, 3, 840, 2, 1, 1, 2, 0, 7, 4, -2);
            x.collapse(1);
            x.pass(7);
            Due.room(x, r, 2, 3, 840, 2, 0, 1, 3, 7, 17, 10, -2);
            x.pass(3);
            Due.room(x, r, 2, 3, 840, 1, 0, 1, 3, 10, 17, 10, -2);
            x.pass(4);
            Due.room(x, r, 2, 3, 840, 0, 0, 1, 3, 14, 17, 10, -2);
        }
        RoomKeeper x = new RoomKeeper();
        Due.is("room -1", x.room(-1, 0), -2);
        Due.is("room 5", x.room(5, 0), -2);
    }

    private static void queuePlaces() {
        Due.says("Returns a member of a queue. - `room`: the room - `i`: the place in its queue, from 0 Returns the "
            + "member; BAD if there is no such room or i is negative; NONE if the queue is not so long.");
        RoomKeeper x = new RoomKeeper();
        Due.is("the first of an empty queue", x.queue(4, 0), -1);
        x.request(0, 0, 9);
        x.request(9, 4, 9);
        x.request(2, 4, 9);
        Due.is("-1", x.queue(4, -1), -2);
        Due.is("0", x.queue(4, 0), 9);
        Due.is("1", x.queue(4, 1), 2);
        Due.is("2", x.queue(4, 2), -1);
        Due.is("far", x.queue(4, MAX), -1);
        Due.is("far below", x.queue(4, Integer.MIN_VALUE), -2);
        Due.is("those inside are in no queue", x.queue(0, 0), -1);
        Due.is("no room -1", x.queue(-1, 0), -2);
        Due.is("no room 5", x.queue(5, 0), -2);
    }

    private static void kindsOfEvents() {
        Due.says("0 a room is opened (the member is NONE), 1 a member enters, 2 a member leaves, 3 the door of a room "
            + "is closed (the member is NONE), 4 a collapsed member is removed.");
        RoomKeeper x = new RoomKeeper();
        x.setRule(1, 1);
        x.pass(2);
        x.request(11, 4, 5);
        x.request(0, 1, 9);
        x.pass(1);
        x.request(7, 4, 9);
        x.pass(4);
        x.collapse(0);
        x.pass(10);
        x.leave(7);
        int[][] want = {{2, 0, -1, 4}, {2, 1, 11, 4}, {3, 3, -1, 4}, {7, 2, 11, 4}, {7, 0, -1, 1}, {7, 1, 0, 1},
            {17, 4, 0, 1}, {17, 0, -1, 4}, {17, 1, 7, 4}, {17, 2, 7, 4}};
        for (int i = 0; i < want.length; i++) {
            Due.event(x, i, want[i][0], want[i][1], want[i][2], want[i][3]);
        }
        Due.is("kept", x.count(11), want.length);
        Due.is("happened", x.count(12), want.length);
    }

    private static void whatIsNoEvent() {
        Due.says("12: events that ever happened");
        RoomKeeper x = new RoomKeeper();
        x.request(0, 0, 99);
        x.request(1, 1, 99);
        x.withdraw(1);
        x.collapse(0);
        x.setCapacity(0, 1);
        x.setShare(0, 2);
        x.setRule(0, 2);
        x.foretell(1);
        x.empties();
        x.save(0);
        x.restore(0);
        x.run();
        x.request(12, 0, 1);
        x.pass(9);
        Due.is("only the opening and the entry", x.count(12), 2);
    }

    private static void latestEvents() {
        Due.says("Returns a part of an event of the log. - `i`: its index, from 0 for the oldest one that is kept - "
            + "`what`: 0: its time; 1: its kind; 2: its member; 3: its room Returns the part; BAD if i is negative or "
            + "what is out of range; NONE if there are not so many events.");
        RoomKeeper x = new RoomKeeper();
        Due.is("no event", x.event(0, 0), -1);
        x.pass(5);
        x.request(3, 2, 9);
        Due.event(x, 0, 5, 0, -1, 2);
        Due.event(x, 1, 5, 1, 3, 2);
        for (int what = 0; what < 4; what++) {
            Due.is("not so many", x.event(2, what), -1);
            Due.is("not so many", x.event(MAX, what), -1);
            Due.is("negative", x.event(-1, what), -2);
        }
        Due.is("no such part", x.event(0, -1), -2);
        Due.is("no such part", x.event(0, 4), -2);
        Due.is("no such part of no event", x.event(2, 4), -2);
    }

    private static void logWrapsAround() {
        Due.says("The log keeps the latest 40 events, each with its time, a kind, a member and a room:");
        for (int happened : new int[] {2, 3, 39, 40, 41, 42, 79, 80, 81, 82, 119, 120, 121}) {
            RoomKeeper x = withEvents(happened);
            int kept = Math.min(happened, 40), oldest = happened - kept;
            Due.is("events that ever happened", x.count(12), happened);
            Due.is("events kept", x.count(11), kept);
            for (int i = 0; i < kept; i++) {
                int event = oldest + i;
                if (event < 2) {
                    Due.event(x, i, 0, event, event == 0 ? -1 : 0, 2);
                } else {
                    Due.event(x, i, event - 1, event % 2 == 0 ? 1 : 2, 1 + event / 2 % 11, 2);
                }
            }
            Due.is("behind the latest", x.event(kept, 0), -1);
        }
    }

    /** Room 2 is opened and 0 enters; then one after another enters and leaves, one event in each tick. */
    private static RoomKeeper withEvents(int count) {
        RoomKeeper x = new RoomKeeper();
        x.request(0, 2, 999);
        for (int event = 2; event < count; event++) {
            x.pass(1);
            if (event % 2 == 0) {
                x.request(1 + event / 2 % 11, 2, 999);
            } else {
                x.leave(1 + event / 2 % 11);
            }
        }
        return x;
    }

    private static void openingsAndEntries() {
        Due.says("For each room there are counted: how often it was opened; entries;");
        RoomKeeper x = new RoomKeeper();
        for (int r = 0; r < 5; r++) {
            for (int i = 0; i < r; i++) {
                x.request(0, r, 9);
                x.request(1, r, 9);
                x.leave(0);
                x.leave(1);
            }
        }
        for (int r = 0; r < 5; r++) {
            Due.is("openings of room " + r, x.room(r, 5), r);
            Due.is("entries of room " + r, x.room(r, 6), 2 * r);
        }
        x.request(0, 0, 9);
        x.request(1, 3, 9);
        Due.is("a room that is only waited for", x.room(3, 5), 3);
        x.withdraw(1);
        Due.is("is not opened", x.room(3, 6), 6);
    }

    private static void ticksSpentInside() {
        Due.says("the ticks that members (not collapsed ones) have spent inside (one for each tick at whose passing a "
            + "member is inside, also for its last one);");
        RoomKeeper x = new RoomKeeper();
        x.request(0, 0, 1);
        x.request(1, 0, 3);
        x.request(2, 0, 9);
        x.request(3, 0, 9);
        Due.is("no tick has passed", x.room(0, 7), 0);
        x.pass(1);
        Due.is("three, the last one of member 0 too; 3 has just entered", x.room(0, 7), 3);
        x.collapse(2);
        x.pass(1);
        Due.is("two, not the collapsed one", x.room(0, 7), 5);
        x.pass(1);
        Due.is("two, the last one of member 1 too", x.room(0, 7), 7);
        x.leave(3);
        Due.is("a departure is no tick", x.room(0, 7), 7);
        x.pass(9);
        Due.is("only the collapsed one was there", x.room(0, 7), 7);
        Due.is("now away", x.count(4), -1);
        Due.is("others", x.room(1, 7), 0);
    }

    private static void waitingTimes() {
        Due.says("the sum and the greatest one of the waiting times of those that entered.");
        RoomKeeper x = new RoomKeeper();
        x.setRule(0, 100);
        x.request(0, 0, 9);
        Due.is("entered at once: sum", x.room(0, 8), 0);
        Due.is("entered at once: greatest", x.room(0, 9), 0);
        x.request(1, 1, 1);
        x.pass(4);
        x.request(2, 1, 1);
        x.request(3, 1, 1);
        x.pass(4);
        Due.is("those who wait still are not counted", x.room(1, 8), 0);
        x.pass(1);
        Due.is("9 and 5 and 5", x.room(1, 8), 19);
        Due.is("greatest", x.room(1, 9), 9);
        x.pass(1);
        x.request(0, 1, 9);
        Due.is("0 more", x.room(1, 8), 19);
        Due.is("a lesser one does not change the greatest", x.room(1, 9), 9);
        x.request(1, 0, 9);
        x.pass(8);
        x.withdraw(1);
        Due.is("nor do those who withdraw", x.room(0, 8), 0);
    }

    private static void unfairnessOfFewRooms() {
        Due.says("Returns the difference; 0 if fewer than two rooms were opened.");
        RoomKeeper x = new RoomKeeper();
        Due.is("no room", x.unfairness(), 0);
        x.request(0, 3, 5);
        x.pass(5);
        Due.is("one room", x.unfairness(), 0);
        x.request(0, 3, 5);
        x.request(1, 2, 5);
        Due.is("a room that is waited for was not opened", x.unfairness(), 0);
        x.leave(0);
        Due.is("two rooms, one without ticks", x.unfairness(), 5 * 2520);
        x.pass(5);
        Due.is("two rooms with as many ticks", x.unfairness(), 0);
        x.request(1, 2, 1);
        x.pass(1);
        Due.is("the other one has more", x.unfairness(), 2520);
    }

    private static void unfairnessOfRooms() {
        Due.says("Tells how unequally the rooms were served: the difference of the greatest and the least value of "
            + "(ticks spent inside) * 2520 / share over all rooms that were opened at least once.");
        RoomKeeper x = new RoomKeeper();
        int[] ticks = {3, 11, 7, 1, 5};
        for (int r = 0; r < 5; r++) {
            x.request(r, r, ticks[r]);
            x.pass(ticks[r]);
        }
        Due.is("11 and 1", x.unfairness(), 10 * 2520);
        x.setShare(1, 9);
        Due.is("7 and 1", x.unfairness(), 6 * 2520);
        x.setShare(2, 7);
        Due.is("5 and 7 / 7, as 1", x.unfairness(), 4 * 2520);
        x.setShare(3, 8);
        Due.is("5 and 1 / 8", x.unfairness(), 5 * 2520 - 315);
        x.setShare(4, 9);
        Due.is("3 and 1 / 8", x.unfairness(), 3 * 2520 - 315);
        x.setShare(0, 4);
        Due.is("5 / 9 is 1400, 3 / 4 is 1890, 11 / 9 is 3080", x.unfairness(), 3080 - 315);
    }

    private static void greatestUnfairness() {
        Due.says("Returns the difference;");
        RoomKeeper x = new RoomKeeper();
        x.request(0, 1, 1);
        x.leave(0);
        x.setCapacity(0, 8);
        for (int round = 0; round < 21; round++) {
            for (int m = 0; m < 8; m++) {
                x.request(m, 0, 999);
            }
            x.pass(round < 20 ? 999 : 20);
        }
        Due.is("time", x.count(0), 20000);
        Due.is("the most ticks that can be spent", x.room(0, 7), 160000);
        Due.is("the greatest difference", x.unfairness(), 403200000);
        x.setShare(0, 9);
        Due.is("by 9", x.unfairness(), 44800000);
    }
}
