/** The errors of all calls: where each begins, which one goes first, and that a refused call changes nothing. */
final class ErrorEdgesTest {
    private static final int BAD = -2, STATE = -3, FULL = -4;
    private static final int MIN = Integer.MIN_VALUE, MAX = Integer.MAX_VALUE;

    public static void main(String[] args) {
        badSettings();
        badMembers();
        badRooms();
        badNumbers();
        notPossible();
        limits();
        badGoesBeforeState();
        badGoesBeforeFull();
        noneIsNoError();
        faultsAreErrors();
        refusedRunKeepsAll();
        refusedSaveKeepsSlots();
        Due.end();
    }

    /** The twin gets every call but the refused one: both must be the same now, in their slots, and later. */
    private static void refuse(String what, int due, Call call) {
        refuse(what, due, call, Scenes.busy(), Scenes.busy());
    }

    private static void refuse(String what, int due, Call call, RoomKeeper x, RoomKeeper twin) {
        Due.is(what, call.on(x), due);
        Due.is(what + " must change nothing", x.digest(), twin.digest());
        Due.is(what + " must not change the text", x.run(), twin.run());
        for (int i = 0; i < 4; i++) {
            x.pass(9);
            twin.pass(9);
            Due.is(what + " must not change what follows", x.digest(), twin.digest());
        }
        for (int slot = 0; slot < 2; slot++) {
            Due.is(what + " must not change a slot's time", x.restore(slot), twin.restore(slot));
            Due.is(what + " must not change a slot", x.digest(), twin.digest());
        }
    }

    /** Beyond both ends, next to them and far away, and numbers whose lower bits alone would be within. */
    private static void outside(String what, int least, int most, CallWith call) {
        int[] beyond = {least - 1, least - 2, most + 1, most + 2, MIN, MIN + least, MAX, least + 256, least - 256,
            least + 65536, least - 65536};
        for (int value : beyond) {
            if (value < least || value > most) {
                refuse(what + " with " + value, BAD, x -> call.on(x, value));
            }
        }
        for (int value : new int[] {least, most}) {
            Due.isTrue(what + " with " + value + " is in range", call.on(Scenes.busy(), value) != BAD);
        }
    }

    private static void badSettings() {
        Due.says("BAD: an argument is out of range, or names something that does not exist.");
        outside("setCapacity: room", 0, 4, (x, r) -> x.setCapacity(r, 5));
        outside("setCapacity: capacity", 1, 8, (x, c) -> x.setCapacity(1, c));
        outside("setShare: room", 0, 4, (x, r) -> x.setShare(r, 5));
        outside("setShare: share", 1, 9, (x, s) -> x.setShare(1, s));
        outside("setRule: what", 0, 2, (x, what) -> x.setRule(what, 15));
        outside("setRule: patience", 1, 100, (x, value) -> x.setRule(0, value));
        outside("setRule: quota", 1, 20, (x, value) -> x.setRule(1, value));
        outside("setRule: attention", 1, 50, (x, value) -> x.setRule(2, value));
    }

    private static void badMembers() {
        Due.says("There are the members 0 to 11 and the rooms 0 to 4.");
        outside("request: member", 0, 11, (x, m) -> x.request(m, 0, 7));
        outside("withdraw: member", 0, 11, (x, m) -> x.withdraw(m));
        outside("leave: member", 0, 11, (x, m) -> x.leave(m));
        outside("collapse: member", 0, 11, (x, m) -> x.collapse(m));
        outside("member: member", 0, 11, (x, m) -> x.member(m, 0));
        outside("foretell: member", 0, 11, (x, m) -> x.foretell(m));
        outside("bestQuota: member", 0, 11, (x, m) -> x.bestQuota(m, 0));
    }

    private static void badRooms() {
        Due.says("There are the members 0 to 11 and the rooms 0 to 4.");
        outside("request: room", 0, 4, (x, r) -> x.request(7, r, 7));
        outside("room: room", 0, 4, (x, r) -> x.room(r, 0));
        outside("queue: room", 0, 4, (x, r) -> x.queue(r, 0));
    }

    private static void badNumbers() {
        Due.says("BAD: an argument is out of range, or names something that does not exist.");
        outside("request: ticks", 1, 999, (x, ticks) -> x.request(7, 1, ticks));
        outside("pass: ticks", 1, 999, (x, ticks) -> x.pass(ticks));
        outside("member: what", 0, 4, (x, what) -> x.member(2, what));
        outside("room: what", 0, 9, (x, what) -> x.room(1, what));
        outside("queue: i", 0, MAX, (x, i) -> x.queue(1, i));
        outside("event: i", 0, MAX, (x, i) -> x.event(i, 0));
        outside("event: what", 0, 3, (x, what) -> x.event(0, what));
        outside("bestQuota: what", 0, 1, (x, what) -> x.bestQuota(2, what));
        outside("type: letter", 0, 127, (x, letter) -> x.type(letter));
        outside("save: slot", 0, 1, (x, slot) -> x.save(slot));
        outside("restore: slot", 0, 1, (x, slot) -> x.restore(slot));
        outside("count: what", 0, 14, (x, what) -> x.count(what));
    }

    /** In the busy scene 0 is inside, 1 collapsed, 2 to 4 wait, the others are away; slot 1 is empty. */
    private static void notPossible() {
        Due.says("STATE: the call is not possible at present, as described.");
        for (int m = 0; m < 12; m++) {
            final int who = m;
            boolean isInside = m == 0, isWaiting = m >= 2 && m <= 4, isAway = m > 4;
            possible("request by " + m, isAway, x -> x.request(who, 3, 5));
            possible("withdraw by " + m, isWaiting, x -> x.withdraw(who));
            possible("leave by " + m, isInside, x -> x.leave(who));
            possible("collapse of " + m, isInside, x -> x.collapse(who));
            possible("foretell of " + m, isWaiting, x -> x.foretell(who));
            possible("bestQuota 0 of " + m, isWaiting, x -> x.bestQuota(who, 0));
            possible("bestQuota 1 of " + m, isWaiting, x -> x.bestQuota(who, 1));
        }
        possible("restore of the saved slot", true, x -> x.restore(0));
        possible("restore of the other slot", false, x -> x.restore(1));
    }

    private static void possible(String what, boolean isPossible, Call call) {
        if (isPossible) {
            Due.isTrue(what + " is no error", call.on(Scenes.busy()) >= 0);
        } else {
            refuse(what, STATE, call);
        }
    }

    private static void limits() {
        Due.says("FULL: a limit would be exceeded.");
        RoomKeeper last = Scenes.atTime(19001);
        Due.is("just to the last time", last.pass(999), 20000);
        refuse("a tick beyond the last time", FULL, x -> x.pass(999), Scenes.atTime(19002), Scenes.atTime(19002));
        refuse("a tick at the last time", FULL, x -> x.pass(1), Scenes.atTime(20000), Scenes.atTime(20000));
        String most = Scenes.repeated("ra0,1;la; ", 10);
        Due.is("the 100th byte", Scenes.withText(most.substring(1)).type(' '), 100);
        for (int letter : new int[] {0, ' ', ';', 127}) {
            refuse("a 101st byte", FULL, x -> x.type(letter), Scenes.withText(most), Scenes.withText(most));
        }
    }

    private static void badGoesBeforeState() {
        Due.says("If several of them apply to a call, the one that comes first in the description of the result is "
            + "returned.");
        for (int m = 0; m <= 2; m++) {
            final int who = m;
            refuse("request by one not away for no room", BAD, x -> x.request(who, 5, 5));
            refuse("request by one not away for no room", BAD, x -> x.request(who, -1, 5));
            refuse("request by one not away for no ticks", BAD, x -> x.request(who, 0, 0));
            refuse("request by one not away for too many ticks", BAD, x -> x.request(who, 0, 1000));
        }
        for (int m : new int[] {0, 1, 5}) {
            final int who = m;
            refuse("bestQuota of one not waiting, what too small", BAD, x -> x.bestQuota(who, -1));
            refuse("bestQuota of one not waiting, what too great", BAD, x -> x.bestQuota(who, 2));
        }
        RoomKeeper empty = new RoomKeeper();
        Due.is("no such slot, and nothing saved", empty.restore(-1), BAD);
        Due.is("no such slot, and nothing saved", empty.restore(2), BAD);
    }

    private static void badGoesBeforeFull() {
        Due.says("If several of them apply to a call, the one that comes first in the description of the result is "
            + "returned.");
        for (int ticks : new int[] {0, -1, 1000, MIN, MAX}) {
            refuse("pass(" + ticks + ") at the last time", BAD, x -> x.pass(ticks), Scenes.atTime(20000),
                Scenes.atTime(20000));
        }
        String most = Scenes.repeated("t1; ", 25);
        for (int letter : new int[] {-1, 128, MIN, MAX}) {
            refuse("type(" + letter + ") into a full text", BAD, x -> x.type(letter), Scenes.withText(most),
                Scenes.withText(most));
        }
    }

    private static void noneIsNoError() {
        Due.says("NONE is not an error; it means that there is no such thing, and is returned only if no error "
            + "applies.");
        RoomKeeper x = new RoomKeeper();
        Due.is("an empty queue", x.queue(0, 0), -1);
        Due.is("an empty queue, and no such place", x.queue(0, -1), BAD);
        Due.is("an empty queue, far", x.queue(4, MAX), -1);
        Due.is("no queue, far", x.queue(5, MAX), BAD);
        Due.is("no queue, far", x.queue(-1, MAX), BAD);
        Due.is("an empty log", x.event(0, 0), -1);
        Due.is("an empty log, no such part", x.event(0, 4), BAD);
        Due.is("an empty log, no such part", x.event(MAX, -1), BAD);
        Due.is("an empty log, no such index", x.event(-1, 0), BAD);
        Due.is("no room is in use", x.count(4), -1);
        Due.is("the room of one away", x.member(0, 1), -1);
        Due.is("no such member", x.member(12, 1), BAD);
        x.request(0, 0, 999);
        x.request(1, 1, 1);
        Due.is("it will not enter within 500", x.foretell(1), -1);
        Due.is("nor with any quota", x.bestQuota(1, 0), -1);
        Due.is("it is not waiting, and could not enter", x.foretell(2), STATE);
        Due.is("it is not waiting, and could not enter", x.bestQuota(2, 0), STATE);
        Due.is("no such property, and could not enter", x.bestQuota(1, 2), BAD);
        Due.is("all away is not within 500", x.empties(), -1);
    }

    private static void faultsAreErrors() {
        Due.says("Results of -2000 and less, the faults of texts, are errors, too.");
        refuse("the least fault", -2000, x -> x.run(), Scenes.withText("x"), Scenes.withText("x"));
        refuse("the next", -2001, x -> x.run(), Scenes.withText("t"), Scenes.withText("t"));
        String most = Scenes.repeated("ra0,1;t9; ", 9) + "ra0,1;t999";
        refuse("the greatest fault", -2100, x -> x.run(), Scenes.withText(most), Scenes.withText(most));
        refuse("a fault behind good steps", -2003, x -> x.run());
    }

    private static void refusedRunKeepsAll() {
        Due.says("A call that returns an error changes nothing.");
        RoomKeeper x = Scenes.busy();
        Due.is("units of the script before", x.count(14), 1);
        Due.is("a fault", x.run(), -2003);
        Due.is("units", x.count(14), 1);
        Due.is("time", x.count(0), 6);
        Due.is("the text", x.count(13), 4);
        Due.is("the text can be gone on with", x.type(';'), 5);
        Due.is("and has its fault still", x.run(), -2003);
    }

    private static void refusedSaveKeepsSlots() {
        Due.says("A call that returns an error changes nothing.");
        RoomKeeper x = Scenes.atTime(7);
        Due.is("save", x.save(1), 7);
        x.pass(1);
        Due.is("no such slot", x.save(2), BAD);
        Due.is("no such slot", x.save(-1), BAD);
        Due.is("slot 0 is still empty", x.restore(0), STATE);
        Due.is("a refused restore leaves the time", x.count(0), 8);
        Due.is("slot 1 is as it was", x.restore(1), 7);
    }
}
