/** Promises 15 to 17: foretell, empties, bestQuota. */
final class ForetellingEdgesTest {
    public static void main(String[] args) {
        nothingChanges();
        beyondTheLastTime();
        soonestEntry();
        furthestEntry();
        furthestEntryBehindOthers();
        collapsedOnesAreForetold();
        doorIsForetold();
        statesOfForetell();
        emptyHouse();
        furthestEmptying();
        whoCannotBeAway();
        foretoldComesTrue();
        leastOfEqualQuotas();
        leastAndGreatestQuota();
        soonerByOne();
        quotaIsSetNow();
        quotaWithinForesight();
        Due.end();
    }

    private static void nothingChanges() {
        Due.says("---- what would be; nothing changes, and the time that is foretold may be beyond 20000");
        RoomKeeper x = Scenes.busy();
        long before = x.digest();
        for (int m = 2; m <= 4; m++) {
            Due.isTrue("foretold", x.foretell(m) > 0);
            Due.isTrue("foretold", x.bestQuota(m, 0) > 0);
            Due.isTrue("foretold", x.bestQuota(m, 1) > 0);
        }
        x.empties();
        Due.is("nothing has changed", x.digest(), before);
        Due.is("the quota", x.count(2), 5);
        RoomKeeper twin = Scenes.busy();
        x.pass(200);
        twin.pass(200);
        Due.is("nor has what follows", x.digest(), twin.digest());
        Due.is("nor the slot", x.restore(0), twin.restore(0));
        Due.is("nor what it holds", x.digest(), twin.digest());
        Due.is("foretelling saves nothing", x.restore(1), -3);
    }

    private static void beyondTheLastTime() {
        Due.says("the time that is foretold may be beyond 20000");
        for (int time : new int[] {19500, 19501, 20000}) {
            RoomKeeper x = Scenes.atTime(time);
            x.request(0, 0, 499);
            x.request(1, 1, 1);
            Due.is("entry", x.foretell(1), 499);
            Due.is("all away", x.empties(), 500);
            Due.is("quota", x.bestQuota(1, 0), 1);
            Due.is("entry with it", x.bestQuota(1, 1), 499);
            Due.is("the time stays", x.count(0), time);
        }
    }

    private static void soonestEntry() {
        Due.says("Foretells when a member will enter if members do nothing from now on but leave when their time is "
            + "over.");
        RoomKeeper x = new RoomKeeper();
        x.request(0, 0, 1);
        x.request(1, 1, 9);
        Due.is("in the next tick", x.foretell(1), 1);
        x.pass(1);
        Due.is("it has entered", x.foretell(1), -3);
        x.setCapacity(1, 1);
        x.request(2, 1, 9);
        Due.is("the room is full", x.foretell(2), 9);
        x.setCapacity(1, 2);
        Due.is("it is not: the keeper acts in the next tick", x.foretell(2), 1);
        RoomKeeper y = new RoomKeeper();
        y.request(0, 0, 9);
        y.request(1, 1, 1);
        y.pass(8);
        Due.is("the time that has passed does not count", y.foretell(1), 1);
    }

    private static void furthestEntry() {
        Due.says("- `member`: the member Returns the number of ticks until then, at most 500; BAD; STATE if it is not "
            + "waiting; NONE if it will not enter within 500 ticks.");
        for (int ticks = 498; ticks <= 502; ticks++) {
            RoomKeeper x = new RoomKeeper();
            x.request(0, 0, ticks);
            x.request(1, 1, 9);
            Due.is("behind one who stays " + ticks, x.foretell(1), ticks <= 500 ? ticks : -1);
        }
    }

    private static void furthestEntryBehindOthers() {
        Due.says("NONE if it will not enter within 500 ticks.");
        RoomKeeper x = new RoomKeeper();
        x.setCapacity(0, 1);
        for (int m = 0; m < 11; m++) {
            x.request(m, 0, 50);
        }
        Due.is("the tenth", x.foretell(9), 450);
        Due.is("the eleventh", x.foretell(10), 500);
        x.request(11, 0, 50);
        Due.is("the twelfth", x.foretell(11), -1);
        x.pass(49);
        Due.is("the twelfth then", x.foretell(11), -1);
        x.pass(1);
        Due.is("the twelfth a tick later", x.foretell(11), 500);
    }

    private static void collapsedOnesAreForetold() {
        Due.says("Foretells when a member will enter if members do nothing from now on but leave when their time is "
            + "over.");
        RoomKeeper x = new RoomKeeper();
        x.setRule(2, 50);
        x.request(0, 0, 999);
        x.request(1, 1, 9);
        Due.is("not within 500", x.foretell(1), -1);
        x.collapse(0);
        Due.is("the collapsed one is removed", x.foretell(1), 50);
        x.pass(30);
        Due.is("after the rest of the attention", x.foretell(1), 20);
        x.setRule(2, 31);
        Due.is("with another attention", x.foretell(1), 1);
        x.setRule(2, 1);
        Due.is("over already: in the next tick", x.foretell(1), 1);
    }

    private static void doorIsForetold() {
        Due.says("Foretells when a member will enter");
        RoomKeeper x = new RoomKeeper();
        x.setCapacity(0, 2);
        x.setRule(0, 10);
        x.request(0, 0, 30);
        x.request(1, 0, 9);
        x.request(2, 0, 9);
        x.request(3, 1, 9);
        Due.is("before the other is impatient", x.foretell(2), 9);
        Due.is("behind members 0 and 2", x.foretell(3), 30);
        x.setRule(0, 9);
        Due.is("the other is impatient in that tick: only when room 0 is opened again", x.foretell(2), 30);
        Due.is("for the call of member 2 was earlier", x.foretell(3), 39);
    }

    private static void statesOfForetell() {
        Due.says("BAD; STATE if it is not waiting;");
        RoomKeeper x = Scenes.busy();
        Due.is("-1", x.foretell(-1), -2);
        Due.is("12", x.foretell(12), -2);
        Due.is("inside", x.foretell(0), -3);
        Due.is("collapsed", x.foretell(1), -3);
        Due.isTrue("waiting", x.foretell(2) > 0);
        Due.is("away", x.foretell(11), -3);
        Due.is("what -1", x.bestQuota(2, -1), -2);
        Due.is("what 2", x.bestQuota(2, 2), -2);
        Due.is("inside", x.bestQuota(0, 0), -3);
        Due.is("collapsed", x.bestQuota(1, 1), -3);
        Due.is("away", x.bestQuota(11, 0), -3);
    }

    private static void emptyHouse() {
        Due.says("Foretells when all members will be away, likewise. Returns the number of ticks, 0 to 500; NONE if "
            + "that will not be within 500 ticks.");
        RoomKeeper x = new RoomKeeper();
        Due.is("all are away", x.empties(), 0);
        x.request(5, 0, 1);
        Due.is("one tick", x.empties(), 1);
        x.request(6, 0, 2);
        Due.is("two ticks", x.empties(), 2);
        x.pass(1);
        Due.is("one again", x.empties(), 1);
        x.pass(1);
        Due.is("all are away again", x.empties(), 0);
    }

    private static void furthestEmptying() {
        Due.says("Returns the number of ticks, 0 to 500; NONE if that will not be within 500 ticks.");
        for (int ticks = 498; ticks <= 502; ticks++) {
            RoomKeeper x = new RoomKeeper();
            x.request(0, 0, ticks);
            Due.is("one who stays " + ticks, x.empties(), ticks <= 500 ? ticks : -1);
            RoomKeeper y = new RoomKeeper();
            y.request(0, 0, ticks - 200);
            y.request(1, 1, 200);
            Due.is("and one who waits", y.empties(), ticks <= 500 ? ticks : -1);
        }
    }

    private static void whoCannotBeAway() {
        Due.says("Foretells when all members will be away, likewise.");
        RoomKeeper x = new RoomKeeper();
        x.request(0, 0, 999);
        Due.is("inside for long", x.empties(), -1);
        x.collapse(0);
        Due.is("collapsed: removed with the attention", x.empties(), 10);
        x.request(1, 1, 491);
        Due.is("and one who waits too long", x.empties(), -1);
        x.withdraw(1);
        x.request(1, 1, 490);
        Due.is("just in time", x.empties(), 500);
    }

    private static void foretoldComesTrue() {
        Due.says("likewise");
        RoomKeeper x = Scenes.busy();
        x.setRule(0, 30);
        for (int m = 2; m <= 4; m++) {
            x.save(1);
            int ticks = x.foretell(m);
            if (ticks > 1) {
                x.pass(ticks - 1);
            }
            Due.is("it waits until then", x.member(m, 0), 1);
            x.pass(1);
            Due.is("it enters then", x.member(m, 0), 2);
            x.restore(1);
        }
        int ticks = x.empties();
        x.pass(ticks - 1);
        Due.isTrue("somebody is there until then", x.empties() == 1);
        x.pass(1);
        Due.is("all are away then", x.empties(), 0);
    }

    /** Room 0 with two places is in use by 0 for long; 1 leaves at 3; 2 to 4 wait for it, 5 for room 1. */
    private static RoomKeeper crowd() {
        RoomKeeper x = new RoomKeeper();
        x.setRule(0, 100);
        x.setCapacity(0, 2);
        x.request(0, 0, 10);
        x.request(1, 0, 3);
        x.request(2, 0, 3);
        x.request(3, 0, 3);
        x.request(4, 0, 3);
        x.request(5, 1, 3);
        return x;
    }

    private static void leastOfEqualQuotas() {
        Due.says("Finds the least quota with which a member would enter soonest, likewise, if it was set now. - "
            + "`member`: the member - `what`: 0: the quota; 1: the number of ticks until the member enters then "
            + "Returns the number; BAD; STATE if the member is not waiting; NONE if it will not enter within 500 ticks "
            + "with any quota.");
        RoomKeeper x = crowd();
        int[] quota = {3, 4, 5, 1}, ticks = {3, 6, 9, 10};
        for (int m = 2; m <= 5; m++) {
            Due.is("quota for " + m, x.bestQuota(m, 0), quota[m - 2]);
            Due.is("ticks for " + m, x.bestQuota(m, 1), ticks[m - 2]);
            for (int q = 1; q <= 20; q++) {
                x.setRule(1, q);
                int foretold = x.foretell(m);
                if (q < quota[m - 2]) {
                    Due.isTrue("a lesser quota is worse", foretold < 0 || foretold > ticks[m - 2]);
                } else {
                    Due.isTrue("no quota is better", foretold < 0 || foretold >= ticks[m - 2]);
                }
                if (q == quota[m - 2]) {
                    Due.is("with it", foretold, ticks[m - 2]);
                }
            }
        }
    }

    private static void leastAndGreatestQuota() {
        Due.says("Finds the least quota with which a member would enter soonest");
        for (int entries = 18; entries <= 20; entries++) {
            RoomKeeper x = new RoomKeeper();
            x.setRule(0, 100);
            x.setRule(1, 20);
            x.setCapacity(0, 2);
            x.request(0, 0, 90);
            for (int i = 2; i < entries; i++) {
                x.request(1, 0, 9);
                x.leave(1);
            }
            x.request(1, 0, 9);
            Due.is("entries", x.count(6), entries);
            x.request(2, 0, 9);
            x.request(3, 1, 9);
            Due.is("one more entry needs one more, of at most 20", x.bestQuota(2, 0), entries < 20 ? entries + 1 : 1);
            Due.is("ticks", x.bestQuota(2, 1), entries < 20 ? 9 : 99);
        }
        RoomKeeper y = new RoomKeeper();
        y.request(0, 0, 7);
        y.request(1, 1, 7);
        Due.is("with all alike: the least", y.bestQuota(1, 0), 1);
        Due.is("ticks", y.bestQuota(1, 1), 7);
    }

    /** With quota 1 room 1 is opened at 3 and room 0 at 3 + stay; with quota 4 member 3 comes in at 3. */
    private static void soonerByOne() {
        Due.says("with which a member would enter soonest");
        for (int stay = 1; stay <= 2; stay++) {
            RoomKeeper x = new RoomKeeper();
            x.setCapacity(0, 2);
            x.request(0, 0, 3);
            x.request(1, 0, 2);
            x.request(2, 0, 3);
            x.request(3, 0, 9);
            x.request(4, 1, stay);
            x.setRule(1, 1);
            Due.is("with quota 1", x.foretell(3), 3 + stay);
            Due.is("quota 4 is sooner by " + stay, x.bestQuota(3, 0), 4);
            Due.is("at 3", x.bestQuota(3, 1), 3);
        }
    }

    private static void quotaIsSetNow() {
        Due.says("likewise, if it was set now.");
        RoomKeeper x = crowd();
        for (int quota : new int[] {1, 5, 20}) {
            x.setRule(1, quota);
            Due.is("the quota that is set does not matter", x.bestQuota(4, 0), 5);
            Due.is("the quota that is set does not matter", x.bestQuota(4, 1), 9);
            Due.is("it stays", x.count(2), quota);
        }
        RoomKeeper y = new RoomKeeper();
        y.setRule(1, 1);
        y.setRule(0, 100);
        y.request(0, 0, 20);
        y.request(1, 1, 9);
        y.request(2, 0, 9);
        Due.is("the door is closed", y.count(5), 0);
        Due.is("no quota opens it", y.bestQuota(2, 0), 1);
        Due.is("behind both", y.bestQuota(2, 1), 29);
        y.setRule(1, 20);
        Due.is("whatever is set", y.foretell(2), 29);
    }

    /** 2 enters room 0 at 500 or 501 if three may enter there, otherwise only behind room 1. */
    private static void quotaWithinForesight() {
        Due.says("NONE if it will not enter within 500 ticks with any quota.");
        for (int ticks = 499; ticks <= 501; ticks++) {
            RoomKeeper x = new RoomKeeper();
            x.setCapacity(0, 2);
            x.setRule(0, 100);
            x.request(0, 0, 999);
            x.request(1, 0, ticks);
            x.request(2, 0, 9);
            Due.is("alone: with any quota", x.bestQuota(2, 0), ticks <= 500 ? 1 : -1);
            Due.is("alone: ticks", x.bestQuota(2, 1), ticks <= 500 ? ticks : -1);
            x.request(3, 1, 9);
            Due.is("the other is impatient by then", x.bestQuota(2, 0), -1);
        }
        for (int left = 99; left <= 101; left++) {
            RoomKeeper x = new RoomKeeper();
            x.setCapacity(0, 2);
            x.setRule(0, 100);
            x.request(0, 0, 999);
            x.request(1, 0, left);
            x.request(2, 0, 9);
            x.request(3, 1, 9);
            Due.is("before the other is impatient", x.bestQuota(2, 0), left < 100 ? 3 : -1);
            Due.is("ticks", x.bestQuota(2, 1), left < 100 ? left : -1);
            x.setRule(1, 2);
            Due.is("with a lesser quota", x.foretell(2), -1);
        }
    }
}
