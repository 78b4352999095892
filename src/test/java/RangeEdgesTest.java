/** Promises 1 to 5, 8 and 9: the ranges of the settings and of the time, and that each value within works as told. */
final class RangeEdgesTest {
    public static void main(String[] args) {
        newObject();
        everyMemberInEveryRoom();
        firstSettings();
        capacities();
        capacityBelowThoseInside();
        shares();
        sharesDoNotChangeScores();
        patiences();
        quotas();
        attentions();
        stays();
        times();
        calls();
        Due.end();
    }

    private static void newObject() {
        Due.says("Creates a keeper at the time 0, with all members away, an empty log and an empty text.");
        RoomKeeper x = new RoomKeeper();
        Due.is("time", x.count(0), 0);
        for (int m = 0; m < 12; m++) {
            Due.member(x, m, 0, -1, -1, 0, -1);
        }
        Due.is("nobody waits", x.count(8), 0);
        Due.is("nobody is impatient", x.count(9), 0);
        Due.is("nobody has collapsed", x.count(10), 0);
        Due.is("events kept", x.count(11), 0);
        Due.is("events ever", x.count(12), 0);
        Due.is("the first event", x.event(0, 0), -1);
        Due.is("bytes", x.count(13), 0);
        Due.is("length of the text", x.clear(), 0);
        Due.is("all away", x.empties(), 0);
        RoomKeeper other = new RoomKeeper();
        x.request(0, 0, 5);
        x.type('t');
        x.save(0);
        Due.is("objects are apart: member", other.member(0, 0), 0);
        Due.is("objects are apart: text", other.count(13), 0);
        Due.is("objects are apart: slot", other.restore(0), -3);
        Due.is("and so is one made later", new RoomKeeper().digest(), other.digest());
    }

    private static void everyMemberInEveryRoom() {
        Due.says("A member is away (state 0, at first), waiting for a room (1), inside a room (2), or collapsed inside "
            + "(3).");
        for (int m = 0; m < 12; m++) {
            for (int r = 0; r < 5; r++) {
                RoomKeeper x = new RoomKeeper();
                int first = (m + 1) % 12, other = (r + 1) % 5;
                Due.is("away", x.member(m, 0), 0);
                x.request(first, other, 2);
                Due.is(m + " requests room " + r, x.request(m, r, 3), 1);
                Due.member(x, m, 1, r, 0, 3, 0);
                Due.queue(x, r, m);
                x.pass(2);
                Due.member(x, m, 2, r, 2, 3, -1);
                Due.is("the room in use", x.count(4), r);
                Due.is("collapse", x.collapse(m), 3);
                Due.member(x, m, 3, r, 2, 0, -1);
                x.pass(10);
                Due.member(x, m, 0, -1, -1, 0, -1);
            }
        }
    }

    private static void firstSettings() {
        Due.says("A room has a capacity from 1 to 8 (at first 3) and a share from 1 to 9 (at first 1), and a score, 0 "
            + "at first.");
        for (int r = 0; r < 5; r++) {
            RoomKeeper x = new RoomKeeper();
            Due.room(x, r, 3, 1, 0, 0, 0, 0, 0, 0, 0, 0);
            Due.is("first capacity", x.setCapacity(r, 4), 3);
            Due.is("first share", x.setShare(r, 2), 1);
        }
        Due.says("Further settings are the patience, 1 to 100 (at first 20), the quota, 1 to 20 (at first 5), and the "
            + "attention, 1 to 50 (at first 10).");
        RoomKeeper x = new RoomKeeper();
        int[] first = {20, 5, 10}, most = {100, 20, 50};
        for (int what = 0; what < 3; what++) {
            Due.is("count", x.count(1 + what), first[what]);
            Due.is("too small", x.setRule(what, 0), -2);
            Due.is("too great", x.setRule(what, most[what] + 1), -2);
            Due.is("the first is unchanged, the greatest is taken", x.setRule(what, most[what]), first[what]);
            Due.is("the least is taken", x.setRule(what, 1), most[what]);
            Due.is("count", x.count(1 + what), 1);
        }
    }

    private static void capacities() {
        Due.says("- `room`: the room - `capacity`: 1 to 8 Returns the capacity before; BAD.");
        for (int r = 0; r < 5; r++) {
            RoomKeeper x = new RoomKeeper();
            int before = 3;
            for (int capacity = 1; capacity <= 8; capacity++) {
                Due.is("capacity before", x.setCapacity(r, capacity), before);
                Due.is("capacity", x.room(r, 0), capacity);
                Due.is("of another room", x.room((r + 1) % 5, 0), 3);
                before = capacity;
            }
            Due.is("0", x.setCapacity(r, 0), -2);
            Due.is("9", x.setCapacity(r, 9), -2);
            Due.is("unchanged", x.room(r, 0), 8);
        }
        for (int capacity = 1; capacity <= 8; capacity++) {
            RoomKeeper x = new RoomKeeper();
            x.setCapacity(2, capacity);
            for (int m = 0; m < capacity; m++) {
                Due.is("number " + m + " of " + capacity + " enters", x.request(m, 2, 9), 2);
            }
            Due.is("the room is full with " + capacity, x.request(capacity, 2, 9), 1);
            Due.is("inside", x.room(2, 3), capacity);
        }
    }

    private static void capacityBelowThoseInside() {
        Due.says("Sets the capacity of a room. Members who are inside stay; the keeper does not act.");
        RoomKeeper x = new RoomKeeper();
        for (int m = 0; m < 4; m++) {
            x.request(m, 0, 9);
        }
        Due.is("three are inside", x.room(0, 3), 3);
        Due.is("smaller", x.setCapacity(0, 1), 3);
        Due.is("they stay", x.room(0, 3), 3);
        Due.is("the same capacity again", x.setCapacity(0, 1), 1);
        Due.is("greater", x.setCapacity(0, 8), 1);
        Due.is("the keeper does not act", x.member(3, 0), 1);
        Due.is("no event", x.count(12), 4);
        x.pass(1);
        Due.is("it does in the next tick", x.member(3, 0), 2);
        RoomKeeper y = new RoomKeeper();
        y.setRule(1, 1);
        y.setCapacity(0, 1);
        y.request(0, 0, 9);
        y.request(1, 0, 9);
        y.request(2, 1, 9);
        y.setCapacity(0, 2);
        Due.is("it does not close the door either", y.count(5), 1);
        y.pass(1);
        Due.is("that too in the next tick", y.count(5), 0);
    }

    private static void shares() {
        Due.says("Sets the share of a room. - `room`: the room - `share`: 1 to 9 Returns the share before; BAD.");
        Due.says("Divisions round down.");
        for (int r = 0; r < 5; r++) {
            RoomKeeper x = new RoomKeeper();
            int before = 1, score = 0;
            for (int share = 1; share <= 9; share++) {
                Due.is("share before", x.setShare(r, share), before);
                before = share;
                x.request(0, r, 1);
                x.leave(0);
                score += 2520 / share;
                Due.is("score after an opening with share " + share, x.room(r, 2), score);
                Due.is("share of another room", x.room((r + 1) % 5, 1), 1);
            }
            Due.is("0", x.setShare(r, 0), -2);
            Due.is("10", x.setShare(r, 10), -2);
            Due.is("unchanged", x.room(r, 1), 9);
        }
    }

    private static void sharesDoNotChangeScores() {
        Due.says("Sets the share of a room.");
        RoomKeeper x = new RoomKeeper();
        x.request(0, 3, 9);
        x.setShare(3, 9);
        Due.is("the score of an opening before stays", x.room(3, 2), 2520);
        Due.is("the base stays", x.count(7), 0);
        x.leave(0);
        x.request(0, 3, 9);
        Due.is("the next opening counts by the new share", x.room(3, 2), 2800);
    }

    private static void patiences() {
        Due.says("Sets a rule. - `what`: 0: the patience; 1: the quota; 2: the attention - `value`: the new value, as "
            + "told above Returns the value before; BAD.");
        for (int patience = 1; patience <= 100; patience++) {
            RoomKeeper x = new RoomKeeper();
            x.pass(3);
            Due.is("patience before", x.setRule(0, patience), 20);
            x.request(0, 0, 999);
            x.request(1, 1, 5);
            if (patience > 1) {
                x.pass(patience - 1);
            }
            Due.is("patience " + patience + ", not yet", x.count(9), 0);
            Due.is("a newcomer enters", x.request(2, 0, 9), 2);
            x.leave(2);
            x.pass(1);
            Due.is("patience " + patience + " is over", x.count(9), 1);
            Due.is("a newcomer does not enter", x.request(2, 0, 9), 1);
            Due.is("the door is closed", x.count(5), 0);
        }
    }

    private static void quotas() {
        Due.says("the quota, 1 to 20 (at first 5)");
        for (int quota = 1; quota <= 20; quota++) {
            RoomKeeper x = new RoomKeeper();
            Due.is("quota before", x.setRule(1, quota), 5);
            x.request(0, 0, 999);
            x.request(1, 1, 5);
            for (int entry = 2; entry <= quota; entry++) {
                Due.is("entry " + entry + " of " + quota, x.request(2, 0, 9), 2);
                Due.is("count of entries", x.count(6), entry);
                x.leave(2);
            }
            Due.is("the door is open still", x.count(5), 1);
            Due.is("the quota " + quota + " is reached", x.request(2, 0, 9), 1);
            Due.is("the door is closed", x.count(5), 0);
            Due.is("count of entries", x.count(6), quota);
        }
    }

    private static void attentions() {
        Due.says("one that has collapsed is removed (it is away then) if the time minus the time of its collapse is at "
            + "least the attention.");
        for (int attention = 1; attention <= 50; attention++) {
            RoomKeeper x = new RoomKeeper();
            Due.is("attention before", x.setRule(2, attention), 10);
            x.request(4, 2, 999);
            x.pass(3);
            Due.is("ticks left", x.collapse(4), 996);
            if (attention > 1) {
                x.pass(attention - 1);
            }
            Due.is("attention " + attention + ", not yet", x.member(4, 0), 3);
            Due.is("no event yet", x.count(12), 2);
            x.pass(1);
            Due.is("attention " + attention + " is over", x.member(4, 0), 0);
            Due.event(x, 2, 3 + attention, 4, 4, 2);
        }
    }

    private static void stays() {
        Due.says("one that is inside has one tick less left, and leaves if none is left (it is away then)");
        for (int ticks : new int[] {1, 2, 3, 500, 998, 999}) {
            RoomKeeper x = new RoomKeeper();
            Due.is("request for " + ticks, x.request(6, 4, ticks), 2);
            Due.is("ticks left", x.member(6, 3), ticks);
            if (ticks > 1) {
                x.pass(ticks - 1);
            }
            Due.is("one tick left", x.member(6, 3), 1);
            Due.is("inside", x.member(6, 0), 2);
            x.pass(1);
            Due.is("away", x.member(6, 0), 0);
            Due.is("no ticks left", x.member(6, 3), 0);
            Due.event(x, 2, ticks, 2, 6, 4);
            Due.is("ticks spent inside", x.room(4, 7), ticks);
        }
    }

    private static void times() {
        Due.says("Time is an integer, 0 at first; at most 20000.");
        RoomKeeper x = Scenes.atTime(19999);
        Due.is("two ticks are too many", x.pass(2), -4);
        Due.is("one is not", x.pass(1), 20000);
        Due.is("one more is", x.pass(1), -4);
        Due.is("the greatest time", x.count(0), 20000);
        Due.is("a request at the greatest time", x.request(0, 0, 1), 2);
        Due.is("another", x.request(1, 1, 1), 1);
        Due.member(x, 1, 1, 1, 20000, 1, 0);
        Due.is("withdraw", x.withdraw(1), 0);
        Due.is("leave", x.leave(0), 1);
        Due.event(x, 0, 20000, 0, -1, 0);
        Due.is("save", x.save(0), 20000);
        Due.is("restore", x.restore(0), 20000);
        Due.text(x, "t1;ra0,1;t1;");
        Due.is("a script at the greatest time: only the request is no error", x.run(), 1);
        Due.is("the time stays", x.count(0), 20000);
        Due.is("so that it stays inside", x.member(0, 3), 1);
    }

    private static void calls() {
        Due.says("An object is used for at most 512 calls after it has been made; what later calls answer is free.");
        RoomKeeper x = new RoomKeeper();
        for (int i = 0; i < 170; i++) {
            Due.is("request", x.request(i % 12, i % 5, 999), 2);
            Due.is("leave", x.leave(i % 12), 999);
            Due.is("pass", x.pass(1), i + 1);
        }
        Due.is("call 511: openings", x.room(4, 5), 34);
        Due.is("call 512: events", x.count(12), 510);
        RoomKeeper y = new RoomKeeper();
        Scenes.type(y, "50(" + Scenes.repeated("ra0,1;la;", 10) + ")");
        for (int i = 0; i < 416; i++) {
            Due.is("run", y.run(), 190);
        }
        Due.is("call 511: openings", y.room(0, 5), 416 * 95);
        Due.is("call 512: score", y.room(0, 2), 416 * 95 * 2520);
    }
}
