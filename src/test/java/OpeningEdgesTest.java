/** Waiting, and which room is opened: queues, impatience, the rooms in use, when the keeper acts, scores and base. */
final class OpeningEdgesTest {
    public static void main(String[] args) {
        emptyAndLongestQueue();
        queueLosesAnyPlace();
        impatience();
        impatienceFollowsTheRule();
        onlyWaitingOnesAreImpatient();
        collapsedOnesUseARoom();
        oneRoomAtATime();
        whatTheKeeperActsAfter();
        whatTheKeeperDoesNotActAfter();
        nobodyWaits();
        impatientOneDecides();
        earliestCallDecides();
        leastScoreDecides();
        leastNumberDecides();
        baseFollowsTheOpenedRoom();
        openedRoomBeginsAnew();
        firstEntersWhateverWaits();
        scoreBecomesBase();
        scoreOfRoomInUse();
        scoreOfRoomWithQueue();
        scoreBeforeAnythingElse();
        Due.end();
    }

    private static void emptyAndLongestQueue() {
        Due.says("The members that wait for a room form its queue, in the order of their requests.");
        RoomKeeper x = new RoomKeeper();
        x.setCapacity(3, 1);
        for (int r = 0; r < 5; r++) {
            Due.queue(x, r);
        }
        int[] order = {7, 0, 11, 3, 9, 1, 10, 2, 8, 4, 6};
        x.request(5, 3, 999);
        Due.queue(x, 3);
        for (int i = 0; i < order.length; i++) {
            Due.is("request", x.request(order[i], 3, 999), 1);
            Due.is("members before it", x.member(order[i], 4), i);
        }
        Due.queue(x, 3, order);
        Due.is("eleven wait", x.count(8), 11);
        Due.is("the one inside has nobody before it", x.member(5, 4), -1);
        Due.queue(x, 2);
        x.leave(5);
        Due.is("the first has entered", x.member(7, 0), 2);
        Due.queue(x, 3, 0, 11, 3, 9, 1, 10, 2, 8, 4, 6);
    }

    private static void queueLosesAnyPlace() {
        Due.says("The members that wait for a room form its queue, in the order of their requests.");
        RoomKeeper x = new RoomKeeper();
        x.request(0, 0, 99);
        for (int m : new int[] {5, 4, 3, 2, 1}) {
            x.request(m, 1, 9);
        }
        x.withdraw(5);
        Due.queue(x, 1, 4, 3, 2, 1);
        x.withdraw(1);
        Due.queue(x, 1, 4, 3, 2);
        x.withdraw(3);
        Due.queue(x, 1, 4, 2);
        x.request(5, 1, 9);
        Due.queue(x, 1, 4, 2, 5);
        x.withdraw(4);
        x.withdraw(2);
        x.withdraw(5);
        Due.queue(x, 1);
    }

    private static void impatience() {
        Due.says("A member is impatient if the time minus the time of its request is at least the patience.");
        RoomKeeper x = new RoomKeeper();
        x.setRule(0, 4);
        x.pass(10);
        x.request(0, 0, 99);
        x.request(1, 1, 9);
        x.pass(1);
        x.request(2, 2, 9);
        x.pass(2);
        Due.is("after 3 and 2", x.count(9), 0);
        x.pass(1);
        Due.is("after 4 and 3", x.count(9), 1);
        x.pass(1);
        Due.is("after 5 and 4", x.count(9), 2);
        x.withdraw(1);
        Due.is("one has gone", x.count(9), 1);
        x.request(1, 1, 9);
        Due.is("its new request counts", x.count(9), 1);
        x.pass(3);
        Due.is("after 3", x.count(9), 1);
        x.pass(1);
        Due.is("after 4", x.count(9), 2);
    }

    private static void impatienceFollowsTheRule() {
        Due.says("A member is impatient if the time minus the time of its request is at least the patience.");
        RoomKeeper x = new RoomKeeper();
        x.request(0, 0, 999);
        x.request(1, 1, 9);
        x.pass(50);
        Due.is("patience 20", x.count(9), 1);
        x.setRule(0, 51);
        Due.is("patience 51", x.count(9), 0);
        x.setRule(0, 50);
        Due.is("patience 50", x.count(9), 1);
        x.setRule(0, 51);
        Due.is("a newcomer enters", x.request(2, 0, 9), 2);
        x.setRule(0, 50);
        Due.is("a newcomer does not", x.request(3, 0, 9), 1);
    }

    private static void onlyWaitingOnesAreImpatient() {
        Due.says("9: impatient members");
        RoomKeeper x = new RoomKeeper();
        x.setRule(0, 1);
        x.setRule(2, 50);
        x.request(0, 0, 99);
        x.request(1, 0, 99);
        x.collapse(1);
        x.pass(30);
        Due.is("neither those inside nor the collapsed", x.count(9), 0);
        x.request(2, 1, 9);
        x.request(3, 0, 9);
        Due.is("just come", x.count(9), 0);
        x.pass(1);
        Due.is("one who waits", x.count(9), 1);
        Due.is("the other has entered", x.member(3, 0), 2);
    }

    private static void collapsedOnesUseARoom() {
        Due.says("A room is in use if a member is inside or collapsed in it; by the rules, this is true for at most "
            + "one room.");
        RoomKeeper x = new RoomKeeper();
        Due.is("nobody: no room", x.count(4), -1);
        x.request(0, 3, 9);
        Due.is("one inside", x.count(4), 3);
        x.collapse(0);
        Due.is("one collapsed", x.count(4), 3);
        Due.is("inside, collapsed ones included", x.room(3, 3), 1);
        Due.is("another room must wait", x.request(1, 2, 9), 1);
        Due.is("the same room need not", x.request(2, 3, 4), 2);
        x.leave(2);
        Due.is("the collapsed one is left", x.count(4), 3);
        x.pass(9);
        Due.is("still", x.count(4), 3);
        x.pass(1);
        Due.is("removed: the next room", x.count(4), 2);
        x.leave(1);
        Due.is("nobody: no room", x.count(4), -1);
    }

    private static void oneRoomAtATime() {
        Due.says("by the rules, this is true for at most one room.");
        RoomKeeper x = new RoomKeeper();
        for (int i = 0; i < 40; i++) {
            x.request(i * 5 % 12, i * 3 % 5, 1 + i % 4);
            x.pass(1);
            int used = 0, number = -1;
            for (int r = 0; r < 5; r++) {
                if (x.room(r, 3) > 0) {
                    used++;
                    number = r;
                }
            }
            Due.isTrue("at most one room is in use", used <= 1);
            Due.is("and it is the one that is told", x.count(4), number);
        }
    }

    /** Member 1 could enter at once, but the keeper has not acted since the capacity was raised. */
    private static RoomKeeper unattended() {
        RoomKeeper x = new RoomKeeper();
        x.setCapacity(0, 2);
        x.request(0, 0, 99);
        x.request(4, 0, 99);
        x.request(1, 0, 99);
        x.request(2, 1, 99);
        x.request(3, 2, 99);
        x.setCapacity(0, 3);
        Due.is("the keeper has not acted", x.member(1, 0), 1);
        return x;
    }

    private static void acts(String what, int state, Call call) {
        RoomKeeper x = unattended();
        call.on(x);
        Due.is("after " + what, x.member(1, 0), state);
    }

    private static void whatTheKeeperActsAfter() {
        Due.says("The keeper acts after requests, withdrawals, departures by leave(), and once in each tick, behind "
            + "all members, as told below.");
        acts("a request for the room", 2, x -> x.request(5, 0, 9));
        acts("a request for another room", 2, x -> x.request(5, 4, 9));
        acts("a withdrawal", 2, x -> x.withdraw(2));
        acts("a departure", 2, x -> x.leave(4));
        acts("a tick", 2, x -> x.pass(1));
    }

    private static void whatTheKeeperDoesNotActAfter() {
        Due.says("The keeper acts after requests, withdrawals, departures by leave(), and once in each tick, behind "
            + "all members, as told below.");
        acts("settings", 1, x -> x.setCapacity(0, 8) + x.setShare(0, 9) + x.setRule(0, 1) + x.setRule(1, 20));
        acts("another capacity", 1, x -> x.setCapacity(1, 8));
        acts("a collapse", 1, x -> x.collapse(0));
        acts("an empty script", 1, x -> x.run());
        acts("saving", 1, x -> x.save(0));
        acts("saving and restoring", 1, x -> x.save(0) + x.restore(0));
        acts("foretelling", 1, x -> x.foretell(1) + x.empties() + x.bestQuota(1, 0) + x.bestQuota(1, 1));
        acts("telling", 1, x -> x.member(1, 0) + x.room(0, 0) + x.queue(0, 0) + x.event(0, 0) + x.unfairness());
        acts("a refused request", 1, x -> x.request(0, 0, 9) + x.request(5, 5, 9));
        acts("a refused withdrawal", 1, x -> x.withdraw(0));
        acts("a refused departure", 1, x -> x.leave(1));
        acts("a refused pass", 1, x -> x.pass(0) + x.pass(1000));
    }

    private static void nobodyWaits() {
        Due.says("If no room is in use, and some member is waiting, a room is opened:");
        RoomKeeper x = new RoomKeeper();
        x.pass(999);
        Due.is("nobody waits: no event", x.count(12), 0);
        Due.is("no room", x.count(4), -1);
        x.request(0, 2, 5);
        Due.event(x, 0, 999, 0, -1, 2);
        Due.is("some member waits: the room and its entry", x.count(12), 2);
        x.request(1, 3, 5);
        Due.is("a room is in use: no other is opened", x.count(12), 2);
        x.withdraw(1);
        x.pass(5);
        Due.is("the last has left, nobody waits", x.count(12), 3);
        Due.is("no room", x.count(4), -1);
    }

    /** Room 0 is in use until the time 10; room 4 has the least score, 1 is the first in line and waits for room 3. */
    private static RoomKeeper twoRoomsWait(int patience) {
        RoomKeeper x = new RoomKeeper();
        x.request(1, 3, 1);
        x.leave(1);
        x.setRule(0, patience);
        x.request(0, 0, 10);
        x.pass(1);
        x.request(1, 3, 5);
        x.pass(1);
        x.request(2, 4, 5);
        return x;
    }

    private static void impatientOneDecides() {
        Due.says("if there are impatient members, the room for which the one with the earliest request waits");
        RoomKeeper x = twoRoomsWait(10);
        Due.is("score of room 3", x.room(3, 2), 2520);
        Due.is("score of room 4", x.room(4, 2), 0);
        x.pass(8);
        Due.is("after 9 of 10 nobody is impatient: the least score", x.count(4), 4);
        RoomKeeper y = twoRoomsWait(9);
        y.pass(8);
        Due.is("after 9 of 9 the one with the earliest request", y.count(4), 3);
        RoomKeeper z = twoRoomsWait(8);
        z.pass(8);
        Due.is("both are impatient: the earliest request", z.count(4), 3);
    }

    private static void earliestCallDecides() {
        Due.says("(of several requests at the same time the earliest call)");
        for (int first = 1; first <= 4; first++) {
            RoomKeeper x = new RoomKeeper();
            x.setRule(0, 3);
            x.request(0, 0, 3);
            x.request(12 - first, first, 9);
            for (int r = 4; r >= 1; r--) {
                if (r != first) {
                    x.request(r, r, 9);
                }
            }
            x.pass(3);
            Due.is("neither the member nor the room decides", x.count(4), first);
        }
    }

    private static void leastScoreDecides() {
        Due.says("otherwise the room with a queue that has the least score");
        RoomKeeper x = new RoomKeeper();
        x.setShare(4, 9);
        x.setShare(3, 8);
        x.setShare(2, 7);
        for (int r = 2; r <= 4; r++) {
            x.request(0, r, 9);
            x.leave(0);
        }
        Due.is("score of room 2", x.room(2, 2), 360);
        Due.is("score of room 3", x.room(3, 2), 315);
        Due.is("score of room 4", x.room(4, 2), 280);
        x.request(0, 1, 9);
        x.request(2, 2, 9);
        x.request(3, 3, 9);
        x.request(4, 4, 9);
        x.leave(0);
        Due.is("280", x.count(4), 4);
        x.leave(4);
        Due.is("then 315; rooms without a queue do not count", x.count(4), 3);
        x.leave(3);
        Due.is("then 360", x.count(4), 2);
    }

    private static void leastNumberDecides() {
        Due.says("of several the one with the least number.");
        int[][] orders = {{0, 1, 3, 4}, {4, 3, 1, 0}, {1, 0, 4, 3}, {3, 4, 0, 1}, {1, 4, 0, 3}, {3, 0, 4, 1}};
        for (int[] order : orders) {
            RoomKeeper x = new RoomKeeper();
            x.request(11, 2, 9);
            for (int i = 0; i < order.length; i++) {
                x.request(i, order[i], 9);
            }
            x.leave(11);
            for (int next : new int[] {0, 1, 3, 4}) {
                Due.is("all scores are 0: the least number, in whatever order they came", x.count(4), next);
                x.leave(x.event(x.count(11) - 1, 2));
            }
            Due.is("then nobody waits", x.count(4), -1);
        }
    }

    private static void baseFollowsTheOpenedRoom() {
        Due.says("The base becomes the score that this room has then (the base is 0 at first); then the score "
            + "increases by 2520 / share;");
        RoomKeeper x = new RoomKeeper();
        x.setRule(0, 5);
        Due.is("base at first", x.count(7), 0);
        x.setShare(0, 5);
        x.request(0, 0, 5);
        Due.is("the score before the opening", x.count(7), 0);
        Due.is("the score", x.room(0, 2), 504);
        x.leave(0);
        x.request(0, 0, 5);
        Due.is("the base", x.count(7), 504);
        x.leave(0);
        Due.is("it stays when the room is no longer in use", x.count(7), 504);
        RoomKeeper y = new RoomKeeper();
        y.setRule(0, 5);
        y.request(0, 0, 5);
        y.request(1, 0, 5);
        y.request(2, 0, 5);
        y.request(3, 0, 1);
        y.request(4, 1, 1);
        y.pass(5);
        Due.is("the impatient one opens room 0 again", y.count(4), 0);
        Due.is("the base grows", y.count(7), 2520);
        y.pass(1);
        Due.is("then room 1", y.count(4), 1);
        Due.is("the base can become less", y.count(7), 0);
        Due.is("score of room 1", y.room(1, 2), 2520);
    }

    private static void openedRoomBeginsAnew() {
        Due.says("its door is open, and its count of entries is 0. Then the first member of its queue enters.");
        RoomKeeper x = new RoomKeeper();
        x.setRule(1, 2);
        x.request(0, 0, 9);
        x.request(1, 0, 9);
        x.request(2, 1, 9);
        x.request(3, 0, 9);
        Due.is("the door of room 0 is closed", x.count(5), 0);
        Due.is("entries", x.count(6), 2);
        x.leave(0);
        x.leave(1);
        Due.is("room 1 is in use", x.count(4), 1);
        Due.is("its door is open", x.count(5), 1);
        Due.is("its first has entered", x.count(6), 1);
        Due.event(x, 6, 0, 0, -1, 1);
        Due.event(x, 7, 0, 1, 2, 1);
        x.leave(2);
        Due.is("room 0 again", x.count(4), 0);
        Due.is("its door is open again", x.count(5), 1);
        Due.is("its entries begin again", x.count(6), 1);
        Due.is("but all are counted", x.room(0, 6), 3);
        Due.is("openings", x.room(0, 5), 2);
        Due.room(x, 1, 3, 1, 2520, 0, 0, 1, 1, 0, 0, 0);
    }

    private static void firstEntersWhateverWaits() {
        Due.says("Then the first member of its queue enters.");
        RoomKeeper x = new RoomKeeper();
        x.setRule(0, 2);
        x.setRule(1, 1);
        x.request(0, 0, 2);
        x.request(1, 1, 9);
        x.request(2, 1, 9);
        x.request(3, 2, 9);
        x.pass(2);
        Due.is("three are impatient, one of them enters", x.count(9), 2);
        Due.is("the first of room 1", x.member(1, 0), 2);
        Due.is("the second finds the door closed", x.member(2, 0), 1);
        Due.is("closed", x.count(5), 0);
        Due.is("entries", x.count(6), 1);
    }

    /** Opens a room once with each of the shares, and leaves it again. */
    private static void openWith(RoomKeeper x, int room, int... shares) {
        for (int share : shares) {
            x.setShare(room, share);
            x.request(0, room, 9);
            x.leave(0);
        }
    }

    private static void scoreBecomesBase() {
        Due.says("When a member requests a room that is not in use and has an empty queue, the score of the room "
            + "becomes the base, if it is less than that, before anything else.");
        int[] upTo2519 = {9, 9, 8, 7, 7, 6, 5};
        RoomKeeper x = new RoomKeeper();
        openWith(x, 0, 1);
        openWith(x, 1, upTo2519);
        x.request(0, 0, 9);
        Due.is("base", x.count(7), 2520);
        Due.is("a score less by one", x.room(1, 2), 2519);
        Due.is("refused", x.request(0, 1, 9), -3);
        Due.is("refused", x.request(1, 1, 1000), -2);
        Due.is("refused requests do not change it", x.room(1, 2), 2519);
        x.request(1, 1, 9);
        Due.is("becomes the base", x.room(1, 2), 2520);
        x.withdraw(1);
        x.request(1, 1, 9);
        Due.is("an equal score stays", x.room(1, 2), 2520);
        Due.is("rooms that are not requested keep theirs", x.room(2, 2), 0);
        RoomKeeper y = new RoomKeeper();
        openWith(y, 1, 1);
        openWith(y, 0, upTo2519);
        y.request(0, 0, 9);
        Due.is("base", y.count(7), 2519);
        y.request(1, 1, 9);
        Due.is("a score greater by one stays", y.room(1, 2), 2520);
        y.request(2, 2, 9);
        Due.is("0 becomes the base", y.room(2, 2), 2519);
        Due.is("the base is as before", y.count(7), 2519);
    }

    private static void scoreOfRoomInUse() {
        Due.says("When a member requests a room that is not in use and has an empty queue");
        RoomKeeper x = new RoomKeeper();
        x.setRule(0, 1);
        x.setRule(2, 50);
        x.request(0, 0, 1);
        x.request(1, 1, 9);
        x.pass(1);
        Due.is("room 1 is in use", x.count(4), 1);
        Due.is("score", x.room(1, 2), 2520);
        x.request(2, 1, 9);
        Due.is("a request for the room in use", x.room(1, 2), 2520);
        x.collapse(1);
        x.leave(2);
        x.request(2, 1, 9);
        Due.is("also with only a collapsed one in it", x.room(1, 2), 2520);
        Due.is("its score is always above the base", x.count(7), 0);
    }

    private static void scoreOfRoomWithQueue() {
        Due.says("has an empty queue");
        RoomKeeper x = new RoomKeeper();
        x.setRule(0, 2);
        x.request(0, 0, 3);
        x.request(1, 0, 3);
        x.request(2, 0, 3);
        x.request(3, 0, 9);
        x.request(4, 1, 3);
        x.pass(3);
        Due.is("the base has grown", x.count(7), 2520);
        x.request(5, 1, 3);
        Due.is("a queue of one: the score stays", x.room(1, 2), 0);
        x.withdraw(4);
        x.request(4, 1, 3);
        Due.is("still a queue of one", x.room(1, 2), 0);
        x.withdraw(4);
        x.withdraw(5);
        Due.is("a withdrawal does not change it", x.room(1, 2), 0);
        x.request(4, 1, 3);
        Due.is("an empty queue: the base", x.room(1, 2), 2520);
    }

    private static void scoreBeforeAnythingElse() {
        Due.says("the score of the room becomes the base, if it is less than that, before anything else.");
        RoomKeeper x = new RoomKeeper();
        for (int i = 0; i < 3; i++) {
            x.request(0, 0, 9);
            x.leave(0);
        }
        Due.is("base", x.count(7), 5040);
        x.setShare(1, 2);
        x.request(0, 1, 9);
        Due.is("opened with the base as its score", x.count(7), 5040);
        Due.is("and grown from there", x.room(1, 2), 5040 + 1260);
    }
}
