/** Promises 21 to 24: save, restore, count, digest. */
final class SlotEdgesTest {
    public static void main(String[] args) {
        constants();
        slotNumbers();
        savedAgain();
        staysSaved();
        slotsAreNotSaved();
        textIsNotSaved();
        everythingElseIsSaved();
        logIsSaved();
        savedStateIsApart();
        timeGoesBack();
        counts();
        roomAndDoor();
        membersCounted();
        digestAtFirst();
        digestOfEvents();
        digestOverflows();
        Due.end();
    }

    private static void constants() {
        Due.says("- `NONE = -1, BAD = -2, STATE = -3, FULL = -4`: No such thing; argument out of range; not possible "
            + "at present; limit exceeded.");
        RoomKeeper x = Scenes.atTime(20000);
        Due.is("no such thing", x.queue(0, 0), RoomKeeper.NONE);
        Due.is("out of range", x.queue(5, 0), RoomKeeper.BAD);
        Due.is("not possible at present", x.restore(0), RoomKeeper.STATE);
        Due.is("limit exceeded", x.pass(1), RoomKeeper.FULL);
        Due.is("NONE", RoomKeeper.NONE, -1);
        Due.is("BAD", RoomKeeper.BAD, -2);
        Due.is("STATE", RoomKeeper.STATE, -3);
        Due.is("FULL", RoomKeeper.FULL, -4);
    }

    private static void slotNumbers() {
        Due.says("- `slot`: 0 or 1 Returns the time; BAD.");
        RoomKeeper x = Scenes.atTime(3);
        Due.is("-1", x.save(-1), -2);
        Due.is("0", x.save(0), 3);
        Due.is("2", x.save(2), -2);
        Due.says("- `slot`: 0 or 1 Returns the time then; BAD; STATE if nothing was saved there.");
        Due.is("nothing was saved in slot 1", x.restore(1), -3);
        x.pass(4);
        Due.is("1", x.save(1), 7);
        x.pass(4);
        Due.is("-1", x.restore(-1), -2);
        Due.is("0", x.restore(0), 3);
        Due.is("1", x.restore(1), 7);
        Due.is("2", x.restore(2), -2);
        RoomKeeper y = new RoomKeeper();
        y.save(1);
        Due.is("nothing was saved in slot 0", y.restore(0), -3);
        Due.is("at the time 0", y.restore(1), 0);
    }

    private static void savedAgain() {
        Due.says("Saves everything but the text and the slots in a slot, in place of what was saved there.");
        RoomKeeper x = new RoomKeeper();
        for (int i = 1; i <= 4; i++) {
            x.request(i, 0, 99);
            x.pass(2);
            Due.is("saved", x.save(0), 2 * i);
        }
        x.pass(1);
        Due.is("the latest", x.restore(0), 8);
        Due.is("with all its members", x.member(4, 0), 1);
    }

    private static void staysSaved() {
        Due.says("Restores what was saved in a slot, where it stays saved.");
        RoomKeeper x = Scenes.busy();
        x.save(1);
        long saved = x.digest();
        for (int i = 0; i < 4; i++) {
            x.pass(20 + i);
            x.request(9, 3, 9);
            Due.isTrue("changed", x.digest() != saved);
            Due.is("restored", x.restore(1), 6);
            Due.is("as it was", x.digest(), saved);
        }
        Due.is("also twice without a change between", x.restore(1), 6);
        Due.is("as it was", x.digest(), saved);
    }

    private static void slotsAreNotSaved() {
        Due.says("everything but the text and the slots");
        RoomKeeper x = new RoomKeeper();
        x.save(0);
        x.pass(5);
        x.save(1);
        Due.is("back", x.restore(0), 0);
        Due.is("slot 1 was saved later and is there still", x.restore(1), 5);
        x.pass(5);
        x.save(0);
        Due.is("back to 5", x.restore(1), 5);
        Due.is("slot 0 holds what was saved last", x.restore(0), 10);
    }

    private static void textIsNotSaved() {
        Due.says("everything but the text and the slots");
        RoomKeeper x = Scenes.withText("t1;");
        x.save(0);
        Scenes.type(x, "t2;");
        x.restore(0);
        Due.is("the text stays", x.count(13), 6);
        Due.is("and is carried out", x.run(), 2);
        Due.is("time", x.count(0), 3);
        x.clear();
        x.restore(0);
        Due.is("an empty text stays, too", x.count(13), 0);
        Due.is("nothing to do", x.run(), 0);
        Scenes.type(x, "t9;");
        x.save(1);
        Due.is("saving leaves the text", x.count(13), 3);
    }

    /** Each change alone, so that nothing can be forgotten behind another. */
    private static void everythingElseIsSaved() {
        Due.says("Saves everything but the text and the slots in a slot");
        restored("capacity", x -> x.setCapacity(4, 8));
        restored("share", x -> x.setShare(4, 9));
        restored("patience", x -> x.setRule(0, 3));
        restored("quota", x -> x.setRule(1, 3));
        restored("attention", x -> x.setRule(2, 3));
        restored("request", x -> x.request(9, 4, 9));
        restored("request for the room in use", x -> x.request(9, 1, 9));
        restored("withdraw", x -> x.withdraw(3));
        restored("leave", x -> x.leave(0));
        restored("collapse", x -> x.collapse(0));
        restored("a tick", x -> x.pass(1));
        restored("many ticks", x -> x.pass(500));
        restored("two withdrawn, so that their order is another", x -> x.withdraw(3) + x.withdraw(4)
            + x.request(4, 2, 9) + x.request(3, 0, 9));
        restored("everybody gone", x -> x.withdraw(2) + x.withdraw(3) + x.withdraw(4) + x.leave(0) + x.pass(9));
        restored("another base", x -> x.withdraw(2) + x.withdraw(3) + x.withdraw(4) + x.leave(0) + x.pass(9)
            + x.request(9, 1, 9));
        restored("a script", x -> x.clear() + x.type('2') + x.type('(') + x.type(')') + x.run() + x.clear()
            + x.type('t') + x.type('5') + x.type(';') + x.type('x'));
    }

    private static void restored(String what, Call change) {
        RoomKeeper x = Scenes.busy(), twin = Scenes.busy();
        x.save(1);
        change.on(x);
        Due.isTrue(what + " changes something", x.digest() != twin.digest());
        x.restore(1);
        Due.is("restored after " + what, x.digest(), twin.digest());
        for (int i = 0; i < 5; i++) {
            x.pass(7);
            twin.pass(7);
            x.request(9, i, 30);
            twin.request(9, i, 30);
            Due.is("what follows after " + what, x.digest(), twin.digest());
        }
    }

    private static void logIsSaved() {
        Due.says("Saves everything but the text and the slots in a slot");
        for (int events : new int[] {38, 40, 42}) {
            RoomKeeper x = new RoomKeeper();
            x.request(0, 0, 999);
            for (int i = 2; i < events; i += 2) {
                x.request(1 + i / 2 % 11, 0, 9);
                x.leave(1 + i / 2 % 11);
            }
            x.save(0);
            long saved = x.digest();
            x.pass(1);
            for (int i = 0; i < 25; i++) {
                x.request(1, 0, 9);
                x.leave(1);
            }
            x.restore(0);
            Due.is("events", x.count(12), events);
            Due.is("the log has gone round between, and is as it was", x.digest(), saved);
        }
    }

    private static void savedStateIsApart() {
        Due.says("Restores what was saved in a slot, where it stays saved.");
        RoomKeeper x = Scenes.busy();
        x.save(0);
        x.save(1);
        long saved = x.digest();
        x.leave(0);
        x.setCapacity(1, 8);
        x.setRule(0, 1);
        x.pass(50);
        x.restore(0);
        Due.is("changes after saving are not in the slot", x.digest(), saved);
        x.leave(0);
        x.setShare(2, 8);
        x.pass(50);
        x.restore(0);
        Due.is("nor are changes after restoring", x.digest(), saved);
        x.restore(1);
        Due.is("nor in the other slot", x.digest(), saved);
    }

    private static void timeGoesBack() {
        Due.says("Returns the time then; BAD; STATE if nothing was saved there.");
        RoomKeeper x = Scenes.atTime(19990);
        x.request(0, 0, 100);
        x.request(1, 1, 5);
        x.save(0);
        for (int i = 0; i < 3; i++) {
            Due.is("to the last time", x.pass(10), 20000);
            Due.is("no further", x.pass(1), -4);
            Due.is("back", x.restore(0), 19990);
            Due.is("ticks left", x.member(0, 3), 100);
            Due.is("waited", x.withdraw(1), 0);
            x.restore(0);
        }
        RoomKeeper y = new RoomKeeper();
        y.setRule(0, 5);
        y.request(0, 0, 99);
        y.save(0);
        y.pass(50);
        y.request(1, 1, 9);
        y.restore(0);
        Due.is("who came later is away", y.member(1, 0), 0);
        y.request(2, 2, 9);
        y.request(1, 1, 9);
        y.pass(5);
        y.leave(0);
        Due.is("the earliest call of those who are there", y.count(4), 2);
    }

    private static void counts() {
        Due.says("Returns a number. - `what`: 0: the time; 1: the patience; 2: the quota; 3: the attention; 4: the "
            + "room in use (NONE if there is none); 5: 1 if its door is open, otherwise 0; 6: its count of entries (0 "
            + "without one); 7: the base; 8: members that wait; 9: impatient members; 10: collapsed members; 11: "
            + "events that are kept in the log; 12: events that ever happened; 13: bytes of the text; 14: units that "
            + "the latest script used up (0 before) Returns the number; BAD.");
        RoomKeeper x = new RoomKeeper();
        numbers(x, 0, 20, 5, 10, -1, 0, 0, 0, 0, 0, 0, 0, 0, 0, 0);
        Due.is("-1", x.count(-1), -2);
        Due.is("15", x.count(15), -2);
        RoomKeeper y = Scenes.busy();
        numbers(y, 6, 20, 5, 10, 1, 1, 2, 630, 3, 0, 1, 6, 6, 4, 1);
        y.setRule(0, 4);
        y.setRule(1, 6);
        y.setRule(2, 3);
        y.pass(1);
        numbers(y, 7, 4, 6, 3, 1, 0, 2, 630, 3, 3, 0, 8, 8, 4, 1);
    }

    private static void numbers(RoomKeeper x, int... want) {
        for (int what = 0; what < want.length; what++) {
            Due.is("count(" + what + ")", x.count(what), want[what]);
        }
        Due.is("behind the last", x.count(want.length), -2);
    }

    private static void roomAndDoor() {
        Due.says("4: the room in use (NONE if there is none); 5: 1 if its door is open, otherwise 0; 6: its count of "
            + "entries (0 without one);");
        RoomKeeper x = new RoomKeeper();
        x.setRule(1, 1);
        for (int r = 0; r < 5; r++) {
            x.request(0, r, 9);
            x.request(1, r, 9);
            Due.is("the room", x.count(4), r);
            Due.is("its door is open", x.count(5), 1);
            Due.is("entries", x.count(6), 2);
            x.request(2, (r + 1) % 5, 9);
            x.request(3, r, 9);
            Due.is("its door is closed", x.count(5), 0);
            Due.is("entries", x.count(6), 2);
            x.withdraw(2);
            x.withdraw(3);
            x.leave(0);
            Due.is("entries are not members", x.count(6), 2);
            x.leave(1);
            Due.is("no room", x.count(4), -1);
            Due.is("no door", x.count(5), 0);
            Due.is("no entries", x.count(6), 0);
        }
        x.request(0, 3, 1);
        Due.is("open", x.count(5), 1);
        x.pass(1);
        Due.is("no room after a tick", x.count(4), -1);
        Due.is("no open door", x.count(5), 0);
        Due.is("no entries", x.count(6), 0);
    }

    private static void membersCounted() {
        Due.says("8: members that wait; 9: impatient members; 10: collapsed members;");
        RoomKeeper x = new RoomKeeper();
        x.setCapacity(0, 8);
        x.setRule(2, 2);
        for (int m = 0; m < 8; m++) {
            x.request(m, 0, 99);
            x.collapse(m);
            Due.is("collapsed", x.count(10), m + 1);
        }
        for (int m = 8; m < 12; m++) {
            x.request(m, m - 7, 99);
            Due.is("waiting", x.count(8), m - 7);
        }
        x.setRule(0, 1);
        Due.is("impatient", x.count(9), 0);
        x.pass(1);
        Due.is("impatient", x.count(9), 4);
        Due.is("collapsed", x.count(10), 8);
        x.pass(1);
        Due.is("collapsed", x.count(10), 0);
        Due.is("one has entered", x.count(8), 3);
        Due.is("and is no longer impatient", x.count(9), 3);
    }

    private static void digestAtFirst() {
        Due.says("Returns a hash. It is 549 at first; for each of the following numbers, in this order, it becomes 31 "
            + "times itself plus the number (long arithmetic with overflow): count(0) to count(14); for each member "
            + "member(m, 0) to member(m, 4); for each room room(r, 0) to room(r, 9);");
        long hash = Due.next(549, 0, 20, 5, 10, -1, 0, 0, 0, 0, 0, 0, 0, 0, 0, 0);
        for (int m = 0; m < 12; m++) {
            hash = Due.next(hash, 0, -1, -1, 0, -1);
        }
        for (int r = 0; r < 5; r++) {
            hash = Due.next(hash, 3, 1, 0, 0, 0, 0, 0, 0, 0, 0);
        }
        hash = Due.next(hash, 0, 0);
        RoomKeeper x = new RoomKeeper();
        Due.is("a new object: no event and no byte", x.digest(), hash);
        Due.is("it is not changed by being told", x.digest(), hash);
        x.type(0);
        Due.isTrue("a byte 0 counts", x.digest() != hash);
    }

    private static void digestOfEvents() {
        Due.says("for each event that is kept event(i, 0) to event(i, 3); unfairness(); empties(); the bytes of the "
            + "text. Returns the hash.");
        for (int events : new int[] {2, 39, 40, 41, 80, 81}) {
            RoomKeeper x = new RoomKeeper();
            x.request(0, 4, 99);
            for (int i = 2; i < events; i++) {
                int answer = i % 2 == 0 ? x.request(1, 4, 9) : x.leave(1);
                Due.isTrue("one event", answer > 0);
            }
            Scenes.type(x, "t1");
            Due.is("events", x.count(12), events);
            Due.is("digest with " + events + " events", x.digest(), Due.digest(x, "t1"));
        }
        RoomKeeper y = Scenes.busy();
        Due.is("digest", y.digest(), Due.digest(y, "t5;x"));
        RoomKeeper z = Scenes.busy();
        z.clear();
        String most = Scenes.repeated("\0~\177 ;", 20);
        Scenes.type(z, most);
        z.request(10, 4, 999);
        z.leave(0);
        z.leave(2);
        z.setRule(2, 1);
        z.pass(9);
        Due.is("empties() is NONE", z.empties(), -1);
        Due.isTrue("unfairness() is not 0", z.unfairness() > 0);
        Due.is("digest with these and a full text", z.digest(), Due.digest(z, most));
    }

    /** Numbers worked out with whole numbers of any length and cut to 64 bits, not with the same long arithmetic. */
    private static void digestOverflows() {
        Due.says("(long arithmetic with overflow)");
        java.math.BigInteger hash = java.math.BigInteger.valueOf(549), factor = java.math.BigInteger.valueOf(31);
        int[] numbers = new int[15 + 60 + 50 + 2];
        numbers[1] = 20;
        numbers[2] = 5;
        numbers[3] = 10;
        numbers[4] = -1;
        for (int m = 0; m < 12; m++) {
            numbers[15 + 5 * m + 1] = -1;
            numbers[15 + 5 * m + 2] = -1;
            numbers[15 + 5 * m + 4] = -1;
        }
        for (int r = 0; r < 5; r++) {
            numbers[75 + 10 * r] = 3;
            numbers[75 + 10 * r + 1] = 1;
        }
        for (int number : numbers) {
            hash = hash.multiply(factor).add(java.math.BigInteger.valueOf(number));
        }
        Due.is("digest of a new object", new RoomKeeper().digest(), hash.longValue());
        Due.isTrue("it does not fit in a long", hash.bitLength() > 64);
    }
}
