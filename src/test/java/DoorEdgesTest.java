/** The door of the room in use, and promises 5 to 9: who enters, when the door is closed, and what ticks do. */
final class DoorEdgesTest {
    public static void main(String[] args) {
        fullRoom();
        collapsedOnesFillARoom();
        moreInsideThanCapacity();
        fullRoomKeepsItsDoorOpen();
        emptyQueueKeepsTheDoorOpen();
        quotaAloneDoesNotClose();
        quotaWithOthers();
        impatienceOfOthers();
        impatienceInTheOwnQueue();
        anyOfTheOthers();
        closedDoorStaysClosed();
        asLongAsSomethingApplies();
        entering();
        requesting();
        withdrawing();
        withdrawingLetsIn();
        leaving();
        collapsing();
        collapsedIsNotNoticed();
        attentionIsOfNow();
        membersInOrder();
        keeperActsBehindAllMembers();
        tickByTick();
        passing();
        Due.end();
    }

    private static void fullRoom() {
        Due.says("If the door of the room in use is open, its queue is not empty, and the room is not full (it has "
            + "fewer members inside, collapsed ones included, than the capacity)");
        RoomKeeper x = new RoomKeeper();
        x.setCapacity(0, 8);
        for (int m = 0; m < 8; m++) {
            Due.is("enters", x.request(m, 0, 9), 2);
        }
        for (int m = 8; m < 12; m++) {
            Due.is("the greatest capacity is reached", x.request(m, 0, 9), 1);
        }
        Due.queue(x, 0, 8, 9, 10, 11);
        x.leave(3);
        Due.is("one place is free", x.member(8, 0), 2);
        Due.is("only one", x.member(9, 0), 1);
        Due.is("inside", x.room(0, 3), 8);
        RoomKeeper y = new RoomKeeper();
        y.setCapacity(0, 1);
        Due.is("the least capacity", y.request(0, 0, 9), 2);
        Due.is("is reached", y.request(1, 0, 9), 1);
    }

    private static void collapsedOnesFillARoom() {
        Due.says("(it has fewer members inside, collapsed ones included, than the capacity)");
        RoomKeeper x = new RoomKeeper();
        x.setCapacity(0, 2);
        x.request(0, 0, 99);
        x.request(1, 0, 99);
        x.collapse(0);
        x.collapse(1);
        Due.is("two collapsed ones fill it", x.request(2, 0, 9), 1);
        x.setCapacity(0, 3);
        Due.is("a third place", x.request(3, 0, 9), 1);
        Due.is("is for the first in the queue", x.member(2, 0), 2);
        x.pass(9);
        Due.is("the first has gone, the second has come", x.member(3, 0), 2);
        x.pass(1);
        Due.is("the collapsed ones are removed", x.room(0, 3), 1);
    }

    private static void moreInsideThanCapacity() {
        Due.says("Members who are inside stay; the keeper does not act.");
        RoomKeeper x = new RoomKeeper();
        x.request(0, 0, 99);
        x.request(1, 0, 99);
        x.request(2, 0, 99);
        x.setCapacity(0, 2);
        x.request(3, 0, 99);
        x.leave(0);
        Due.is("two inside are as many as the capacity", x.member(3, 0), 1);
        x.leave(1);
        Due.is("one inside is fewer", x.member(3, 0), 2);
        Due.is("two inside", x.room(0, 3), 2);
    }

    private static void fullRoomKeepsItsDoorOpen() {
        Due.says("and the room is not full");
        RoomKeeper x = new RoomKeeper();
        x.setRule(0, 2);
        x.setRule(1, 1);
        x.setCapacity(0, 1);
        x.request(0, 0, 99);
        x.request(1, 0, 99);
        x.request(2, 1, 99);
        x.pass(5);
        Due.is("quota reached, others impatient, but full", x.count(5), 1);
        Due.is("no event", x.count(12), 2);
        x.setCapacity(0, 2);
        x.pass(1);
        Due.is("no longer full: the door is closed", x.count(5), 0);
        Due.event(x, 2, 6, 3, -1, 0);
        Due.is("nobody has entered", x.member(1, 0), 1);
    }

    private static void emptyQueueKeepsTheDoorOpen() {
        Due.says("its queue is not empty");
        RoomKeeper x = new RoomKeeper();
        x.setRule(0, 2);
        x.setRule(1, 1);
        x.request(0, 0, 99);
        x.request(2, 1, 99);
        x.pass(5);
        Due.is("quota reached, others impatient, but nobody at the door", x.count(5), 1);
        x.request(1, 0, 9);
        Due.is("one at the door: it is closed", x.count(5), 0);
        Due.is("the one at the door waits", x.queue(0, 0), 1);
    }

    private static void quotaAloneDoesNotClose() {
        Due.says("if members wait for other rooms");
        RoomKeeper x = new RoomKeeper();
        x.setRule(1, 1);
        x.setCapacity(0, 8);
        for (int m = 0; m < 8; m++) {
            Due.is("nobody waits for other rooms", x.request(m, 0, 99), 2);
        }
        Due.is("entries above the quota", x.count(6), 8);
        Due.is("the door is open", x.count(5), 1);
        x.leave(7);
        Due.is("one waits for another room", x.request(8, 1, 99), 1);
        Due.is("the door is closed to the next", x.request(7, 0, 99), 1);
        Due.is("closed", x.count(5), 0);
    }

    private static void quotaWithOthers() {
        Due.says("if members wait for other rooms, and either the count of entries is at least the quota or one of "
            + "these members is impatient, then the door is closed; otherwise the first member of the queue enters.");
        RoomKeeper x = new RoomKeeper();
        x.setRule(1, 3);
        x.setCapacity(0, 8);
        x.request(0, 0, 99);
        x.request(8, 1, 99);
        Due.is("entries 1, quota 3", x.request(1, 0, 99), 2);
        Due.is("entries 2, quota 3", x.request(2, 0, 99), 2);
        Due.is("open with the quota reached and nobody at the door", x.count(5), 1);
        x.setRule(1, 4);
        Due.is("entries 3, quota 4", x.request(3, 0, 99), 2);
        Due.is("entries 4, quota 4", x.request(4, 0, 99), 1);
        Due.is("closed", x.count(5), 0);
        Due.event(x, 5, 0, 3, -1, 0);
        Due.is("the entries stay", x.count(6), 4);
        Due.is("it is logged once", x.count(12), 6);
        x.request(5, 0, 99);
        x.pass(3);
        Due.is("also later", x.count(12), 6);
    }

    private static void impatienceOfOthers() {
        Due.says("or one of these members is impatient, then the door is closed");
        RoomKeeper x = new RoomKeeper();
        x.setRule(0, 7);
        x.setRule(1, 20);
        x.request(0, 0, 99);
        x.request(1, 1, 99);
        x.pass(6);
        Due.is("after 6 of 7", x.request(2, 0, 99), 2);
        x.pass(1);
        Due.is("after 7 of 7", x.request(3, 0, 99), 1);
        Due.is("closed", x.count(5), 0);
        RoomKeeper y = new RoomKeeper();
        y.setRule(0, 7);
        y.setCapacity(0, 1);
        y.request(0, 0, 99);
        y.request(1, 1, 99);
        y.request(2, 0, 99);
        y.pass(6);
        y.setCapacity(0, 2);
        y.pass(1);
        Due.is("impatient in the very tick: the door is closed", y.count(5), 0);
        Due.is("before the other enters", y.member(2, 0), 1);
    }

    private static void impatienceInTheOwnQueue() {
        Due.says("one of these members is impatient");
        RoomKeeper x = new RoomKeeper();
        x.setRule(0, 3);
        x.setCapacity(0, 1);
        x.request(0, 0, 99);
        x.request(1, 0, 99);
        x.pass(9);
        x.request(2, 1, 99);
        Due.is("only the one in the queue of the room is impatient", x.count(9), 1);
        x.setCapacity(0, 2);
        x.pass(2);
        Due.is("that does not close the door", x.member(1, 0), 2);
        Due.is("open", x.count(5), 1);
    }

    private static void anyOfTheOthers() {
        Due.says("one of these members is impatient");
        for (int patient = 0; patient < 2; patient++) {
            RoomKeeper x = new RoomKeeper();
            x.setRule(0, 4);
            x.request(0, 0, 99);
            x.request(1, 1 + patient, 99);
            x.pass(2);
            x.request(2, 2 - patient, 99);
            x.pass(2);
            Due.is("one of two", x.count(9), 1);
            Due.is("is enough", x.request(3, 0, 99), 1);
        }
    }

    private static void closedDoorStaysClosed() {
        Due.says("The room in use has a door, which is open or closed, and a count of entries.");
        RoomKeeper x = new RoomKeeper();
        x.setRule(1, 1);
        x.request(0, 0, 99);
        x.request(1, 1, 99);
        x.request(2, 0, 99);
        Due.is("closed", x.count(5), 0);
        x.withdraw(1);
        x.setRule(1, 20);
        x.setCapacity(0, 8);
        x.pass(9);
        Due.is("nothing opens it", x.count(5), 0);
        Due.is("nobody enters", x.member(2, 0), 1);
        Due.is("newcomers wait", x.request(3, 0, 99), 1);
        x.collapse(0);
        x.pass(10);
        Due.is("the room is opened anew", x.count(5), 1);
        Due.queue(x, 0);
        Due.is("openings", x.room(0, 5), 2);
    }

    private static void asLongAsSomethingApplies() {
        Due.says("otherwise the first member of the queue enters.");
        RoomKeeper x = new RoomKeeper();
        x.setCapacity(0, 1);
        for (int m = 0; m < 12; m++) {
            x.request(m, 0, 99);
        }
        x.setCapacity(0, 8);
        x.pass(1);
        Due.is("seven enter in one tick", x.count(6), 8);
        Due.queue(x, 0, 8, 9, 10, 11);
        RoomKeeper y = new RoomKeeper();
        y.request(0, 1, 5);
        for (int m = 11; m > 0; m--) {
            y.request(m, 0, 99);
        }
        y.setCapacity(0, 8);
        y.leave(0);
        Due.is("a room is opened and eight enter at once", y.count(6), 8);
        Due.event(y, 3, 0, 0, -1, 0);
        for (int i = 0; i < 8; i++) {
            Due.event(y, 4 + i, 0, 1, 11 - i, 0);
        }
        Due.is("events", y.count(12), 12);
        RoomKeeper z = new RoomKeeper();
        z.setCapacity(0, 1);
        for (int m = 0; m < 11; m++) {
            z.request(m, 0, 99);
        }
        z.request(11, 4, 99);
        z.setCapacity(0, 8);
        z.pass(1);
        Due.is("four enter up to the quota", z.count(6), 5);
        Due.is("then the door is closed", z.count(5), 0);
        Due.event(z, 6, 1, 3, -1, 0);
    }

    private static void entering() {
        Due.says("To enter means: the member is inside from then on, the count of entries of the room increases by 1, "
            + "and the member has as many ticks left as its request says.");
        for (int ticks : new int[] {1, 999}) {
            RoomKeeper x = new RoomKeeper();
            x.request(0, 0, 5);
            x.request(1, 1, ticks);
            x.pass(4);
            Due.member(x, 1, 1, 1, 0, ticks, 0);
            x.pass(1);
            Due.member(x, 1, 2, 1, 5, ticks, -1);
            Due.is("count of entries", x.count(6), 1);
            Due.is("entries of the room", x.room(1, 6), 1);
            x.request(2, 1, 5);
            Due.is("count of entries", x.count(6), 2);
            Due.is("entries of the room", x.room(1, 6), 2);
        }
    }

    private static void requesting() {
        Due.says("Lets a member request a room; it waits for it then, and the keeper acts. - `member`: the member - "
            + "`room`: the room - `ticks`: how long it will stay, 1 to 999 Returns the state of the member then, 1 or "
            + "2; BAD; STATE if it is not away.");
        RoomKeeper x = new RoomKeeper();
        Due.is("0 ticks", x.request(0, 0, 0), -2);
        Due.is("1000 ticks", x.request(0, 0, 1000), -2);
        Due.is("1 tick", x.request(0, 0, 1), 2);
        Due.is("999 ticks", x.request(1, 1, 999), 1);
        Due.is("one inside", x.request(0, 0, 1), -3);
        Due.is("one who waits", x.request(1, 1, 999), -3);
        x.collapse(0);
        Due.is("one collapsed", x.request(0, 0, 1), -3);
        x.withdraw(1);
        Due.is("away again", x.request(1, 0, 9), 2);
        x.leave(1);
        Due.is("away again", x.request(1, 0, 9), 2);
        x.pass(10);
        Due.is("removed, and away again", x.request(0, 4, 9), 2);
        RoomKeeper y = new RoomKeeper();
        y.setCapacity(0, 1);
        y.request(0, 0, 9);
        y.request(1, 0, 9);
        y.setCapacity(0, 2);
        Due.is("it is behind the queue", y.request(2, 0, 9), 1);
        Due.is("whose first has entered", y.member(1, 0), 2);
    }

    private static void withdrawing() {
        Due.says("Lets a waiting member withdraw; it is away then, and the keeper acts. - `member`: the member Returns "
            + "how long it has waited; BAD; STATE if it is not waiting.");
        RoomKeeper x = new RoomKeeper();
        x.setRule(0, 100);
        x.pass(100);
        x.request(0, 0, 999);
        x.request(1, 1, 9);
        Due.is("at once", x.withdraw(1), 0);
        Due.member(x, 1, 0, -1, -1, 0, -1);
        Due.is("it is not waiting any more", x.withdraw(1), -3);
        x.request(1, 1, 9);
        x.pass(1);
        Due.is("after 1", x.withdraw(1), 1);
        x.request(1, 1, 9);
        x.pass(997);
        Due.is("inside is not waiting", x.withdraw(0), -3);
        Due.is("after 997", x.withdraw(1), 997);
        Due.is("the waiting of those who withdraw is not counted", x.room(1, 8), 0);
        Due.is("nor logged", x.count(12), 2);
        x.request(1, 1, 9);
        x.collapse(0);
        Due.is("collapsed is not waiting", x.withdraw(0), -3);
        x.pass(10);
        Due.is("it has entered", x.withdraw(1), -3);
    }

    private static void withdrawingLetsIn() {
        Due.says("Lets a waiting member withdraw; it is away then, and the keeper acts.");
        RoomKeeper x = new RoomKeeper();
        x.setRule(1, 1);
        x.setCapacity(0, 1);
        x.request(0, 0, 99);
        x.request(1, 0, 99);
        x.request(2, 1, 99);
        x.setCapacity(0, 2);
        x.withdraw(2);
        Due.is("it is away when the keeper acts: nobody waits elsewhere", x.member(1, 0), 2);
        Due.is("the door is open", x.count(5), 1);
        RoomKeeper y = new RoomKeeper();
        y.setRule(1, 1);
        y.setCapacity(0, 1);
        y.request(0, 0, 99);
        y.request(1, 0, 99);
        y.request(2, 1, 99);
        y.request(3, 2, 99);
        y.setCapacity(0, 2);
        y.withdraw(2);
        Due.is("another waits elsewhere", y.member(1, 0), 1);
        Due.is("the door is closed", y.count(5), 0);
    }

    private static void leaving() {
        Due.says("Lets a member leave before its time; it is away then, and the keeper acts. - `member`: the member "
            + "Returns how many ticks it had left; BAD; STATE if it is not inside.");
        RoomKeeper x = new RoomKeeper();
        x.request(0, 0, 999);
        Due.is("at once", x.leave(0), 999);
        Due.is("it is not inside any more", x.leave(0), -3);
        x.request(0, 0, 999);
        x.pass(998);
        Due.is("before its last tick", x.leave(0), 1);
        Due.member(x, 0, 0, -1, -1, 0, -1);
        Due.event(x, 5, 998, 2, 0, 0);
        x.request(0, 0, 5);
        x.request(1, 1, 5);
        Due.is("one who waits", x.leave(1), -3);
        x.collapse(0);
        Due.is("one collapsed", x.leave(0), -3);
        RoomKeeper y = new RoomKeeper();
        y.request(0, 0, 9);
        y.request(1, 0, 9);
        y.request(2, 1, 9);
        y.leave(0);
        Due.is("one is still inside", y.member(2, 0), 1);
        y.leave(1);
        Due.is("the last has left: the keeper acts", y.member(2, 0), 2);
        Due.is("ticks are spent in ticks alone", y.room(0, 7), 0);
    }

    private static void collapsing() {
        Due.says("Lets a member collapse inside. The keeper notices that only when the attention is over. - `member`: "
            + "the member Returns how many ticks it had left; BAD; STATE if it is not inside.");
        RoomKeeper x = new RoomKeeper();
        x.request(0, 0, 999);
        x.request(1, 0, 5);
        x.request(2, 1, 5);
        Due.is("away", x.collapse(3), -3);
        Due.is("waiting", x.collapse(2), -3);
        Due.is("inside", x.collapse(0), 999);
        Due.is("collapsed", x.collapse(0), -3);
        x.pass(4);
        Due.is("before its last tick", x.collapse(1), 1);
        Due.member(x, 1, 3, 0, 4, 0, -1);
        Due.is("two have collapsed", x.count(10), 2);
        x.pass(6);
        Due.is("one is removed at 10", x.count(10), 1);
        Due.event(x, 3, 10, 4, 0, 0);
        x.pass(4);
        Due.is("the other at 14", x.count(10), 0);
        Due.event(x, 4, 14, 4, 1, 0);
        Due.is("then the other room", x.count(4), 1);
        Due.is("ticks spent inside: only until the collapse", x.room(0, 7), 4);
    }

    private static void collapsedIsNotNoticed() {
        Due.says("The keeper notices that only when the attention is over.");
        RoomKeeper x = new RoomKeeper();
        x.setRule(2, 50);
        x.request(0, 0, 2);
        x.request(1, 1, 2);
        x.collapse(0);
        Due.is("no event", x.count(12), 2);
        x.pass(49);
        Due.is("its time would be over long since", x.member(0, 0), 3);
        Due.is("the other waits", x.member(1, 0), 1);
        x.pass(1);
        Due.is("noticed", x.member(0, 0), 0);
        Due.is("the other enters in the same tick", x.member(1, 2), 50);
    }

    private static void attentionIsOfNow() {
        Due.says("if the time minus the time of its collapse is at least the attention.");
        RoomKeeper x = new RoomKeeper();
        x.request(0, 0, 99);
        x.collapse(0);
        x.pass(9);
        x.setRule(2, 12);
        x.pass(2);
        Due.is("11 of 12", x.member(0, 0), 3);
        x.setRule(2, 11);
        Due.is("a setting removes nobody", x.member(0, 0), 3);
        x.setRule(2, 13);
        x.pass(1);
        Due.is("12 of 13", x.member(0, 0), 3);
        x.setRule(2, 1);
        x.pass(1);
        Due.is("13 of 1", x.member(0, 0), 0);
    }

    private static void membersInOrder() {
        Due.says("When a tick passes, the time increases by 1. Then, for all members in ascending order:");
        RoomKeeper x = new RoomKeeper();
        x.setCapacity(2, 8);
        x.setRule(2, 1);
        int[] order = {11, 3, 7, 0, 10, 5, 1, 8};
        for (int m : order) {
            x.request(m, 2, 1);
        }
        x.collapse(3);
        x.collapse(10);
        Due.is("time", x.pass(1), 1);
        int[] ascending = {0, 1, 3, 5, 7, 8, 10, 11};
        for (int i = 0; i < 8; i++) {
            int kind = ascending[i] == 3 || ascending[i] == 10 ? 4 : 2;
            Due.event(x, 9 + i, 1, kind, ascending[i], 2);
        }
        Due.is("all away", x.empties(), 0);
    }

    private static void keeperActsBehindAllMembers() {
        Due.says("Then the keeper acts.");
        RoomKeeper x = new RoomKeeper();
        x.setCapacity(0, 2);
        x.request(5, 0, 3);
        x.request(11, 0, 3);
        x.request(0, 0, 7);
        x.request(6, 1, 7);
        x.pass(3);
        Due.event(x, 3, 3, 2, 5, 0);
        Due.event(x, 4, 3, 2, 11, 0);
        Due.event(x, 5, 3, 0, -1, 1);
        Due.event(x, 6, 3, 1, 6, 1);
        Due.is("one who has just entered has lost no tick", x.member(6, 3), 7);
        Due.is("room 0 was empty when the keeper acted", x.member(0, 0), 1);
        RoomKeeper y = new RoomKeeper();
        y.setCapacity(0, 1);
        for (int m = 11; m >= 0; m--) {
            y.request(m, 0, 1);
        }
        for (int tick = 1; tick <= 12; tick++) {
            Due.is("one in each tick", y.member(12 - tick, 0), 2);
            y.pass(1);
            Due.is("and gone in the next", y.member(12 - tick, 0), 0);
        }
        Due.is("openings", y.room(0, 5), 12);
        Due.is("waited in all", y.room(0, 8), 66);
        Due.is("waited longest", y.room(0, 9), 11);
    }

    private static void tickByTick() {
        Due.says("Lets time pass, tick by tick.");
        for (int ticks : new int[] {1, 2, 9, 10, 30, 120}) {
            RoomKeeper x = Scenes.busy(), y = Scenes.busy();
            x.pass(ticks);
            for (int i = 0; i < ticks; i++) {
                y.pass(1);
            }
            Due.is("pass(" + ticks + ") is as often pass(1)", x.digest(), y.digest());
        }
    }

    private static void passing() {
        Due.says("- `ticks`: 1 to 999 Returns the time then; BAD; FULL if it would be greater than 20000.");
        RoomKeeper x = new RoomKeeper();
        Due.is("0", x.pass(0), -2);
        Due.is("1", x.pass(1), 1);
        Due.is("999", x.pass(999), 1000);
        Due.is("1000", x.pass(1000), -2);
        Due.is("the time", x.count(0), 1000);
        for (int ticks = 1; ticks <= 3; ticks++) {
            RoomKeeper y = Scenes.atTime(19998);
            y.request(0, 0, 9);
            Due.is("at 19998 pass(" + ticks + ")", y.pass(ticks), ticks <= 2 ? 19998 + ticks : -4);
            Due.is("if refused, no tick has passed", y.member(0, 3), ticks <= 2 ? 9 - ticks : 9);
        }
    }
}
