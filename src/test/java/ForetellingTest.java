/** Promises 15 to 17: foretell, empties, bestQuota. */
final class ForetellingTest {
    public static void main(String[] args) {
        wrongInputs();
        foretelling();
        horizon();
        emptying();
        bestQuota();
        beyondTheEnd();
        Due.end();
    }

    private static void wrongInputs() {
        RoomKeeper x = new RoomKeeper();
        x.request(0, 0, 5);
        x.request(1, 0, 5);
        x.collapse(1);
        x.request(2, 1, 5);
        long before = x.digest();
        for (int m : new int[] {-1, 12, Integer.MIN_VALUE, Integer.MAX_VALUE}) {
            Due.error(x, "foretell(" + m + ")", x.foretell(m), -2, before);
            Due.error(x, "bestQuota(" + m + ", 0)", x.bestQuota(m, 0), -2, before);
        }
        for (int what : new int[] {-1, 2, Integer.MIN_VALUE, Integer.MAX_VALUE}) {
            Due.error(x, "bestQuota(2, " + what + ")", x.bestQuota(2, what), -2, before);
            Due.error(x, "bestQuota(3, " + what + ")", x.bestQuota(3, what), -2, before);
        }
        for (int m : new int[] {0, 1, 3}) {
            Due.error(x, "foretell(" + m + ")", x.foretell(m), -3, before);
            Due.error(x, "bestQuota(" + m + ", 0)", x.bestQuota(m, 0), -3, before);
            Due.error(x, "bestQuota(" + m + ", 1)", x.bestQuota(m, 1), -3, before);
        }
    }

    private static void foretelling() {
        RoomKeeper x = new RoomKeeper();
        x.request(0, 0, 8);
        x.request(1, 0, 9);
        x.request(2, 1, 6);
        x.request(3, 2, 6);
        x.collapse(1);
        long before = x.digest();
        Due.is("the collapsed one is removed at 10", x.foretell(2), 10);
        Due.is("then room 1 takes 6", x.foretell(3), 16);
        Due.is("all away", x.empties(), 22);
        Due.is("nothing has changed", x.digest(), before);
        Due.is("nor the time", x.count(0), 0);
        for (int t = 9; t >= 0; t--) {
            x.pass(1);
            if (t > 0) {
                Due.is("foretold at " + x.count(0), x.foretell(2), t);
            }
        }
        Due.is("as foretold", x.member(2, 0), 2);
    }

    private static void horizon() {
        RoomKeeper x = new RoomKeeper();
        x.request(0, 0, 500);
        x.request(1, 1, 1);
        Due.is("in 500 ticks", x.foretell(1), 500);
        Due.is("best in 500 ticks", x.bestQuota(1, 1), 500);
        Due.is("all away in 501", x.empties(), -1);
        x.leave(0);
        x.leave(1);
        x.request(0, 0, 501);
        Due.is("all away in 501 only", x.empties(), -1);
        x.request(1, 1, 1);
        Due.is("in 501 ticks", x.foretell(1), -1);
        Due.is("no quota helps", x.bestQuota(1, 0), -1);
        Due.is("no quota helps", x.bestQuota(1, 1), -1);
        x.pass(1);
        Due.is("now in 500", x.foretell(1), 500);
        Due.is("with any quota", x.bestQuota(1, 0), 1);
        x.withdraw(1);
        Due.is("all away in 500", x.empties(), 500);
    }

    private static void emptying() {
        RoomKeeper x = new RoomKeeper();
        Due.is("nobody here", x.empties(), 0);
        x.request(0, 0, 1);
        Due.is("one tick", x.empties(), 1);
        x.collapse(0);
        Due.is("the attention", x.empties(), 10);
        x.pass(9);
        Due.is("the rest of the attention", x.empties(), 1);
        x.pass(1);
        Due.is("away", x.empties(), 0);
        Due.is("events are only those that happened", x.count(12), 3);
    }

    private static void bestQuota() {
        RoomKeeper x = new RoomKeeper();
        x.setCapacity(0, 1);
        x.setCapacity(0, 2);
        x.setRule(0, 100);
        x.request(0, 0, 10);
        x.request(1, 0, 3);
        x.request(2, 0, 3);
        x.request(3, 0, 3);
        x.request(4, 0, 3);
        x.request(5, 1, 3);
        // The door is open, two have entered; member 4 comes in behind 2 and 3 while member 0 stays until 10.
        Due.is("with quota 5: 2, 3 and 4 enter at 3, 6 and 9", x.foretell(4), 9);
        Due.is("member 4 needs four entries before its own", x.bestQuota(4, 0), 5);
        Due.is("at 9", x.bestQuota(4, 1), 9);
        Due.is("member 3 needs three", x.bestQuota(3, 0), 4);
        Due.is("at 6", x.bestQuota(3, 1), 6);
        Due.is("member 5 wants the door closed early", x.bestQuota(5, 0), 1);
        Due.is("at 10, when member 0 goes", x.bestQuota(5, 1), 10);
        Due.is("with quota 5 member 4 stays until 12", x.foretell(5), 12);
        Due.is("the quota itself stays", x.count(2), 5);
        x.setRule(1, 1);
        long before = x.digest();
        Due.is("the quota of today does not count", x.bestQuota(4, 0), 5);
        Due.is("nothing has changed", x.digest(), before);
        Due.is("with quota 1", x.foretell(5), 10);
    }

    private static void beyondTheEnd() {
        RoomKeeper x = new RoomKeeper();
        for (int i = 0; i < 20; i++) {
            x.pass(999);
        }
        x.pass(20);
        x.request(0, 0, 300);
        x.request(1, 1, 150);
        Due.is("beyond 20000", x.foretell(1), 300);
        Due.is("beyond 20000", x.bestQuota(1, 1), 300);
        Due.is("beyond 20000", x.empties(), 450);
        Due.is("the time stays", x.count(0), 20000);
    }
}
