/** Promises 15 to 17: foretell, empties, bestQuota. */
final class ForetellingTest {
    public static void main(String[] args) {
        wrongInputs();
        foretelling();
        horizon();
        emptying();
        bestQuota();
        greatestQuota();
        soonerByOne();
        beyondTheEnd();
        Due.end();
    }

    private static void wrongInputs() {
        RoomKeeper x = new RoomKeeper();
        x.request(0, 0, 5);
        x.request(1, 0, 5);
        x.collapse(1);
        x.request(2, 1, 5);
        long before = x.digest();
        for (int m : new int[] {-1, 12, Integer.MIN_VALUE, Integer.MAX_VALUE}) {
            Due.error(x, "foretell(" + m + ")", x.foretell(m), -2, before);
            Due.error(x, "bestQuota(" + m + ", 0)", x.bestQuota(m, 0), -2, before);
        }
        for (int what : new int[] {-1, 2, Integer.MIN_VALUE, Integer.MAX_VALUE}) {
            Due.error(x, "bestQuota(2, " + what + ")", x.bestQuota(2, what), -2, before);
            Due.error(x, "bestQuota(3, " + what + ")", x.bestQuota(3, what), -2, before);
        }
        for (int m : new int[] {0, 1, 3}) {
            Due.error(x, "foretell(" + m + ")", x.foretell(m), -3, before);
            Due.error(x, "bestQuota(" + m + ", 0)", x.bestQuota(m, 0), -3, before);
            Due.error(x, "bestQuota(" + m + ", 1)", x.bestQuota(m, 1), -3, before);
        }
    }

    private static void foretelling() {
        RoomKeeper x = new RoomKeeper();
        x.request(0, 0, 8);
        x.request(1, 0, 9);
        x.request(2, 1, 6);
        x.request(3, 2, 6);
        x.collapse(1);
        long before = x.digest();
        Due.is("the collapsed one is removed at 10", x.foretell(2), 10);
        Due.is("then room 1 takes 6", x.foretell(3), 16);
        Due.is("all away", x.empties(), 22);
        Due.is("nothing has changed", x.digest(), before);
        Due.is("nor the time", x.count(0), 0);
        for (int t = 9; t >= 0; t--) {
            x.pass(1);
            if (t > 0) {
                Due.is("foretold at " + x.count(0), x.foretell(2), t);
            }
        }
        Due.is("as foretold", x.member(2, 0), 2);
    }

    private static void horizon() {
        RoomKeeper x = new RoomKeeper();
        x.request(0, 0, 500);
        x.request(1, 1, 1);
        Due.is("in 500 ticks", x.foretell(1), 500);
        Due.is("best in 500 ticks", x.bestQuota(1, 1), 500);
        Due.is("all away in 501", x.empties(), -1);
        x.leave(0);
        x.leave(1);
        x.request(0, 0, 501);
        Due.is("all away in 501 only", x.empties(), -1);
        x.request(1, 1, 1);
        Due.is("in 501 ticks", x.foretell(1), -1);
        Due.is("no quota helps", x.bestQuota(1, 0), -1);
        Due.is("no quota helps", x.bestQuota(1, 1), -1);
        x.pass(1);
        Due.is("now in 500", x.foretell(1), 500);
        Due.is("with any quota", x.bestQuota(1, 0), 1);
        x.withdraw(1);
        Due.is("all away in 500", x.empties(), 500);
    }

    private static void emptying() {
        RoomKeeper x = new RoomKeeper();
        Due.is("nobody here", x.empties(), 0);
        x.request(0, 0, 1);
        Due.is("one tick", x.empties(), 1);
        x.collapse(0);
        Due.is("the attention", x.empties(), 10);
        x.pass(9);
        Due.is("the rest of the attention", x.empties(), 1);
        x.pass(1);
        Due.is("away", x.empties(), 0);
        Due.is("events are only those that happened", x.count(12), 3);
    }

    private static void bestQuota() {
        RoomKeeper x = new RoomKeeper();
        x.setCapacity(0, 1);
        x.setCapacity(0, 2);
        x.setRule(0, 100);
        x.request(0, 0, 10);
        x.request(1, 0, 3);
        x.request(2, 0, 3);
        x.request(3, 0, 3);
        x.request(4, 0, 3);
        x.request(5, 1, 3);
        // The door is open, two have entered; member 4 comes in behind 2 and 3 while member 0 stays until 10.
        Due.is("with quota 5: 2, 3 and 4 enter at 3, 6 and 9", x.foretell(4), 9);
        Due.is("member 4 needs four entries before its own", x.bestQuota(4, 0), 5);
        Due.is("at 9", x.bestQuota(4, 1), 9);
        Due.is("member 3 needs three", x.bestQuota(3, 0), 4);
        Due.is("at 6", x.bestQuota(3, 1), 6);
        Due.is("member 5 wants the door closed early", x.bestQuota(5, 0), 1);
        Due.is("at 10, when member 0 goes", x.bestQuota(5, 1), 10);
        Due.is("with quota 5 member 4 stays until 12", x.foretell(5), 12);
        Due.is("the quota itself stays", x.count(2), 5);
        x.setRule(1, 1);
        long before = x.digest();
        Due.is("the quota of today does not count", x.bestQuota(4, 0), 5);
        Due.is("nothing has changed", x.digest(), before);
        Due.is("with quota 1", x.foretell(5), 10);
    }

    private static void greatestQuota() {
        RoomKeeper x = new RoomKeeper();
        x.setRule(1, 20);
        x.setRule(0, 100);
        x.setCapacity(0, 2);
        x.request(0, 0, 90);
        for (int i = 0; i < 17; i++) {
            x.request(1, 0, 9);
            x.leave(1);
        }
        x.request(1, 0, 9);
        Due.is("19 entries", x.count(6), 19);
        x.request(2, 0, 9);
        x.request(3, 1, 9);
        Due.is("only the greatest quota lets it in at 9", x.bestQuota(2, 0), 20);
        Due.is("at 9", x.bestQuota(2, 1), 9);
        x.setRule(1, 19);
        Due.is("with 19 it waits for room 1", x.foretell(2), 99);
    }

    private static void soonerByOne() {
        RoomKeeper x = new RoomKeeper();
        x.setCapacity(0, 2);
        x.request(0, 0, 5);
        x.request(1, 0, 4);
        x.request(2, 0, 9);
        x.setShare(1, 9);
        x.request(3, 1, 1);
        x.setRule(1, 2);
        Due.is("with quota 2 member 2 waits for member 0 and room 1", x.foretell(2), 6);
        Due.is("quota 3", x.bestQuota(2, 0), 3);
        Due.is("at 4", x.bestQuota(2, 1), 4);
        x.withdraw(3);
        x.request(3, 0, 9);
        x.request(4, 1, 9);
        x.setRule(1, 20);
        Due.is("member 3 enters with member 0's departure", x.foretell(3), 5);
        Due.is("that takes quota 4", x.bestQuota(3, 0), 4);
        Due.is("at 5", x.bestQuota(3, 1), 5);
        RoomKeeper y = new RoomKeeper();
        y.setCapacity(0, 2);
        y.request(0, 0, 2);
        y.request(1, 0, 2);
        y.request(2, 0, 9);
        y.request(3, 1, 1);
        Due.is("without the quota at 2, with it at 3 behind room 1", y.bestQuota(2, 0), 1);
        Due.is("room 0 is emptied at once and room 1 goes first, whatever the quota", y.bestQuota(2, 1), 3);
        y.collapse(0);
        y.setRule(2, 3);
        // With quota 1 or 2 the door is closed at 2, room 1 is opened at 3 and room 0 again at 4.
        Due.is("quota 3", y.bestQuota(2, 0), 3);
        Due.is("at 2", y.bestQuota(2, 1), 2);
        y.setCapacity(0, 3);
        Due.is("in the next tick", y.bestQuota(2, 1), 1);
        Due.is("quota 3", y.bestQuota(2, 0), 3);
        RoomKeeper z = new RoomKeeper();
        z.setCapacity(0, 2);
        z.request(0, 0, 3);
        z.request(1, 0, 2);
        z.request(2, 0, 3);
        z.request(3, 0, 9);
        z.request(4, 1, 1);
        // With quota 1 or 2 room 1 is opened at 3 and room 0 at 4; with quota 3 the door is closed at 3 and member 2
        // goes at 5, so that room 1 is opened then; with quota 4 member 3 comes in at 3.
        Due.is("quota 4 is sooner by one than quota 1", z.bestQuota(3, 0), 4);
        Due.is("at 3", z.bestQuota(3, 1), 3);
        z.setRule(1, 1);
        Due.is("quota 1", z.foretell(3), 4);
        z.setRule(1, 3);
        Due.is("quota 3", z.foretell(3), 6);
    }

    private static void beyondTheEnd() {
        RoomKeeper x = new RoomKeeper();
        for (int i = 0; i < 20; i++) {
            x.pass(999);
        }
        x.pass(20);
        x.request(0, 0, 300);
        x.request(1, 1, 150);
        Due.is("beyond 20000", x.foretell(1), 300);
        Due.is("beyond 20000", x.bestQuota(1, 1), 300);
        Due.is("beyond 20000", x.empties(), 450);
        Due.is("the time stays", x.count(0), 20000);
    }
}
