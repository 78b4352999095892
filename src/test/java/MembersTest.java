/** Promises 5 to 9, and with them how the keeper acts: request, withdraw, leave, collapse, pass. */
final class MembersTest {
    public static void main(String[] args) {
        wrongInputs();
        stateErrors();
        entering();
        quotaClosesDoor();
        impatienceClosesDoor();
        doorStaysOpenForOneRoom();
        leastScoreIsNext();
        impatientAreNext();
        scoreRisesToBase();
        scoreStaysWithQueue();
        impatienceCountsFromRequest();
        withdrawing();
        leaving();
        collapsing();
        ticksInOrderOfMembers();
        passing();
        Due.end();
    }

    private static void wrongInputs() {
        RoomKeeper x = new RoomKeeper();
        x.request(3, 1, 50);
        long before = x.digest();
        int[][] bad = {{-1, 0, 1}, {12, 0, 1}, {0, -1, 1}, {0, 5, 1}, {0, 0, 0}, {0, 0, 1000}, {0, 0, -5},
            {3, 0, 0}, {3, 5, 1}, {Integer.MAX_VALUE, 0, 1}, {0, Integer.MIN_VALUE, 1}, {0, 0, Integer.MAX_VALUE}};
        for (int[] a : bad) {
            String call = "request(" + a[0] + ", " + a[1] + ", " + a[2] + ")";
            Due.error(x, call, x.request(a[0], a[1], a[2]), -2, before);
        }
        for (int m : new int[] {-1, 12, Integer.MIN_VALUE, Integer.MAX_VALUE}) {
            Due.error(x, "withdraw(" + m + ")", x.withdraw(m), -2, before);
            Due.error(x, "leave(" + m + ")", x.leave(m), -2, before);
            Due.error(x, "collapse(" + m + ")", x.collapse(m), -2, before);
        }
        for (int ticks : new int[] {0, -1, 1000, Integer.MIN_VALUE, Integer.MAX_VALUE}) {
            Due.error(x, "pass(" + ticks + ")", x.pass(ticks), -2, before);
        }
    }

    private static void stateErrors() {
        RoomKeeper x = new RoomKeeper();
        x.request(0, 0, 9);
        x.request(1, 0, 9);
        x.collapse(1);
        x.request(2, 1, 9);
        long before = x.digest();
        for (int m = 0; m < 3; m++) {
            Due.error(x, "request by one who is not away", x.request(m, 0, 1), -3, before);
        }
        for (int m : new int[] {0, 1, 3}) {
            Due.error(x, "withdraw by one who does not wait", x.withdraw(m), -3, before);
        }
        for (int m : new int[] {1, 2, 3}) {
            Due.error(x, "leave by one who is not inside", x.leave(m), -3, before);
            Due.error(x, "collapse of one who is not inside", x.collapse(m), -3, before);
        }
    }

    private static void entering() {
        RoomKeeper x = new RoomKeeper();
        x.pass(7);
        Due.is("an empty house opens at once", x.request(11, 4, 999), 2);
        Due.is("room of the member", x.member(11, 1), 4);
        Due.is("when it entered", x.member(11, 2), 7);
        Due.is("ticks left", x.member(11, 3), 999);
        Due.is("door open", x.count(5), 1);
        Due.is("another room waits", x.request(0, 0, 1), 1);
        Due.is("second in room 4", x.request(1, 4, 1), 2);
        Due.is("third in room 4", x.request(2, 4, 1), 2);
        Due.is("a full room", x.request(3, 4, 1), 1);
        Due.is("a full room keeps its door open", x.count(5), 1);
        Due.is("entries", x.count(6), 3);
        Due.is("events", x.count(12), 4);
        Due.event(x, 0, 7, 0, -1, 4);
        Due.event(x, 1, 7, 1, 11, 4);
        Due.event(x, 2, 7, 1, 1, 4);
        Due.event(x, 3, 7, 1, 2, 4);
    }

    private static void quotaClosesDoor() {
        RoomKeeper x = new RoomKeeper();
        x.setRule(1, 2);
        x.request(0, 2, 9);
        x.request(1, 2, 9);
        x.request(2, 2, 9);
        Due.is("without others the quota does not count", x.count(6), 3);
        x.leave(0);
        Due.is("somebody waits elsewhere", x.request(3, 1, 5), 1);
        Due.is("nobody is at the door: it stays open", x.count(5), 1);
        Due.is("a newcomer finds the quota reached", x.request(0, 2, 9), 1);
        Due.is("the door is closed", x.count(5), 0);
        Due.event(x, 5, 0, 3, -1, 2);
        x.withdraw(3);
        Due.is("a closed door stays closed", x.member(0, 0), 1);
        x.leave(1);
        Due.is("entries are told while the room is in use", x.count(6), 3);
        x.leave(2);
        Due.is("the room is opened anew", x.member(0, 0), 2);
        Due.is("opened twice", x.room(2, 5), 2);
        Due.is("entries begin again", x.count(6), 1);
        Due.is("the door is open again", x.count(5), 1);
    }

    private static void impatienceClosesDoor() {
        RoomKeeper x = new RoomKeeper();
        x.setRule(0, 3);
        x.request(0, 0, 50);
        x.request(1, 3, 50);
        x.pass(2);
        Due.is("not impatient after 2", x.count(9), 0);
        Due.is("enters still", x.request(2, 0, 50), 2);
        x.pass(1);
        Due.is("impatient after 3", x.count(9), 1);
        Due.is("nobody at the door", x.count(5), 1);
        Due.is("the door closes before the newcomer", x.request(4, 0, 50), 1);
        Due.is("closed", x.count(5), 0);
        Due.event(x, 3, 3, 3, -1, 0);
    }

    private static void doorStaysOpenForOneRoom() {
        RoomKeeper x = new RoomKeeper();
        x.setCapacity(0, 1);
        x.setRule(0, 1);
        x.setRule(1, 1);
        x.request(0, 0, 5);
        x.request(1, 0, 5);
        x.request(2, 0, 5);
        x.pass(4);
        Due.is("impatient members of the same room", x.count(9), 2);
        x.leave(0);
        Due.is("the room was empty and is opened anew", x.room(0, 5), 2);
        x.setCapacity(0, 2);
        x.pass(1);
        Due.is("those of the same room do not close the door", x.member(2, 0), 2);
        Due.is("entries beyond the quota", x.count(6), 2);
    }

    private static void leastScoreIsNext() {
        RoomKeeper x = new RoomKeeper();
        x.request(0, 4, 5);
        x.request(1, 3, 1);
        x.request(2, 1, 1);
        x.request(3, 2, 1);
        x.setShare(1, 9);
        x.pass(5);
        Due.is("of equal scores the least number", x.count(4), 1);
        Due.is("base", x.count(7), 0);
        x.request(4, 1, 1);
        x.pass(1);
        Due.is("room 1 had others waiting and grew", x.room(1, 2), 280);
        Due.is("then room 2", x.count(4), 2);
        x.request(4, 1, 1);
        x.pass(1);
        Due.is("then room 3", x.count(4), 3);
        Due.is("score of room 3", x.room(3, 2), 2520);
        x.pass(1);
        Due.is("then room 1 with 280", x.count(4), 1);
        Due.is("the base is the score before", x.count(7), 280);
        Due.is("its score", x.room(1, 2), 560);
    }

    private static void impatientAreNext() {
        RoomKeeper x = new RoomKeeper();
        x.setRule(0, 5);
        x.request(0, 2, 5);
        x.request(1, 2, 5);
        x.request(2, 2, 5);
        x.request(9, 4, 1);
        x.request(8, 3, 1);
        x.request(7, 2, 1);
        x.pass(1);
        x.request(6, 0, 1);
        x.pass(4);
        Due.is("of requests at the same time the earliest call", x.count(4), 4);
        x.pass(1);
        Due.is("then the other impatient one of that time", x.count(4), 3);
        x.pass(1);
        Due.is("then room 2 with the higher score", x.count(4), 2);
        Due.is("it waited", x.room(2, 9), 7);
        Due.is("base", x.count(7), 2520);
        x.pass(1);
        Due.is("then room 0", x.count(4), 0);
    }

    private static void scoreRisesToBase() {
        RoomKeeper x = new RoomKeeper();
        for (int i = 0; i < 3; i++) {
            x.request(0, 0, 1);
            x.leave(0);
        }
        Due.is("base", x.count(7), 5040);
        Due.is("score of room 0", x.room(0, 2), 7560);
        x.request(0, 0, 5);
        Due.is("base", x.count(7), 7560);
        x.request(1, 1, 5);
        Due.is("the score rises to the base", x.room(1, 2), 7560);
        Due.is("other scores stay", x.room(2, 2), 0);
        x.request(2, 0, 5);
        Due.is("the room in use keeps its score", x.room(0, 2), 10080);
        x.leave(0);
        x.leave(2);
        Due.is("room 1 is open", x.count(4), 1);
        Due.is("and grew", x.room(1, 2), 10080);
        x.request(3, 0, 5);
        Due.is("a greater score stays", x.room(0, 2), 10080);
        RoomKeeper y = new RoomKeeper();
        y.setShare(1, 9);
        y.request(0, 0, 9);
        y.request(1, 1, 9);
        y.request(2, 1, 9);
        y.leave(0);
        y.leave(1);
        y.leave(2);
        y.request(0, 0, 9);
        Due.is("base", y.count(7), 2520);
        y.request(1, 1, 9);
        Due.is("from 280 to the base", y.room(1, 2), 2520);
    }

    private static void scoreStaysWithQueue() {
        RoomKeeper x = new RoomKeeper();
        x.setRule(0, 2);
        x.request(0, 0, 3);
        x.request(1, 0, 3);
        x.request(2, 0, 3);
        x.request(3, 0, 3);
        x.request(4, 1, 3);
        x.pass(3);
        Due.is("the impatient one opens room 0 again", x.count(4), 0);
        Due.is("with the greater score as base", x.count(7), 2520);
        x.request(5, 1, 3);
        Due.is("a room with a queue keeps its score", x.room(1, 2), 0);
        x.withdraw(4);
        x.withdraw(5);
        x.request(5, 1, 3);
        Due.is("with an empty queue it rises", x.room(1, 2), 2520);
    }

    private static void impatienceCountsFromRequest() {
        RoomKeeper x = new RoomKeeper();
        x.pass(100);
        x.request(0, 0, 50);
        x.request(1, 1, 50);
        Due.is("just come", x.count(9), 0);
        x.pass(19);
        Due.is("after 19", x.count(9), 0);
        Due.is("enters", x.request(2, 0, 50), 2);
        x.pass(1);
        Due.is("after 20", x.count(9), 1);
        Due.is("does not enter", x.request(3, 0, 50), 1);
        Due.is("waited 20", x.withdraw(1), 20);
        Due.is("waited 0", x.withdraw(3), 0);
    }

    private static void withdrawing() {
        RoomKeeper x = new RoomKeeper();
        x.setRule(1, 1);
        x.setCapacity(0, 1);
        x.request(0, 0, 20);
        x.request(1, 1, 20);
        x.request(2, 0, 20);
        x.request(3, 0, 20);
        x.pass(4);
        x.setCapacity(0, 3);
        Due.is("withdraw returns how long it waited", x.withdraw(3), 4);
        Due.is("it is away", x.member(3, 0), 0);
        Due.is("its room", x.member(3, 1), -1);
        Due.is("its time", x.member(3, 2), -1);
        Due.is("its ticks", x.member(3, 3), 0);
        Due.is("its place", x.member(3, 4), -1);
        Due.is("the keeper has acted: the door is closed", x.count(5), 0);
        RoomKeeper y = new RoomKeeper();
        y.setRule(1, 1);
        y.request(0, 0, 20);
        y.request(1, 1, 20);
        Due.is("withdraw at once", y.withdraw(1), 0);
        Due.is("nobody waits elsewhere", y.request(2, 0, 3), 2);
        Due.is("withdrawals are no events", y.count(12), 3);
    }

    private static void leaving() {
        RoomKeeper x = new RoomKeeper();
        x.request(0, 3, 20);
        x.request(1, 2, 20);
        x.pass(6);
        Due.is("leave returns the ticks left", x.leave(0), 14);
        int[] away = {0, -1, -1, 0, -1};
        for (int what = 0; what < away.length; what++) {
            Due.is("it is away: member(0, " + what + ")", x.member(0, what), away[what]);
        }
        Due.is("the keeper acts", x.member(1, 0), 2);
        Due.event(x, 2, 6, 2, 0, 3);
        Due.event(x, 3, 6, 0, -1, 2);
        Due.event(x, 4, 6, 1, 1, 2);
        x.leave(1);
        Due.is("no room in use", x.count(4), -1);
        Due.is("no door", x.count(5), 0);
        Due.is("no entries", x.count(6), 0);
    }

    private static void collapsing() {
        RoomKeeper x = new RoomKeeper();
        x.setRule(2, 3);
        x.setCapacity(1, 1);
        x.request(0, 1, 20);
        x.request(1, 1, 20);
        x.pass(2);
        Due.is("collapse returns the ticks left", x.collapse(0), 18);
        Due.is("collapsed", x.member(0, 0), 3);
        Due.is("its room", x.member(0, 1), 1);
        Due.is("time of the collapse", x.member(0, 2), 2);
        Due.is("no ticks", x.member(0, 3), 0);
        Due.is("it counts as inside", x.room(1, 3), 1);
        Due.is("collapsed members", x.count(10), 1);
        Due.is("a collapse is no event", x.count(12), 2);
        x.pass(2);
        Due.is("not noticed yet", x.member(0, 0), 3);
        x.pass(1);
        Due.is("noticed when the attention is over", x.member(0, 0), 0);
        Due.is("then the keeper acts", x.member(1, 0), 2);
        Due.event(x, 2, 5, 4, 0, 1);
        Due.is("its collapsed ticks do not count", x.room(1, 7), 2);
        x.setRule(2, 50);
        x.collapse(1);
        x.pass(10);
        x.setRule(2, 5);
        x.pass(1);
        Due.is("a lower attention removes in the next tick", x.member(1, 0), 0);
        Due.is("collapsed members", x.count(10), 0);
    }

    private static void ticksInOrderOfMembers() {
        RoomKeeper x = new RoomKeeper();
        x.request(5, 0, 2);
        x.request(2, 0, 2);
        x.request(9, 0, 2);
        x.setRule(2, 2);
        x.collapse(5);
        x.request(0, 0, 1);
        x.pass(2);
        Due.event(x, 4, 2, 2, 2, 0);
        Due.event(x, 5, 2, 4, 5, 0);
        Due.event(x, 6, 2, 2, 9, 0);
        Due.event(x, 7, 2, 0, -1, 0);
        Due.event(x, 8, 2, 1, 0, 0);
        Due.is("ticks inside", x.room(0, 7), 4);
        x.pass(1);
        Due.is("the last tick counts", x.room(0, 7), 5);
    }

    private static void passing() {
        RoomKeeper x = new RoomKeeper();
        Due.is("pass(1)", x.pass(1), 1);
        for (int i = 0; i < 20; i++) {
            x.pass(999);
        }
        Due.is("pass(19)", x.pass(19), 20000);
        long before = x.digest();
        Due.error(x, "pass(1) at the end", x.pass(1), -4, before);
        Due.error(x, "pass(1000) at the end", x.pass(1000), -2, before);
        Due.error(x, "pass(0) at the end", x.pass(0), -2, before);
        Due.is("request at the end", x.request(0, 0, 999), 2);
        Due.is("empties beyond the end", x.empties(), -1);
        RoomKeeper y = new RoomKeeper();
        for (int i = 0; i < 20; i++) {
            y.pass(999);
        }
        Due.is("a tick too many", y.pass(21), -4);
        Due.is("just enough", y.pass(20), 20000);
    }
}
