/** Promises 1 to 4: a new object, setCapacity, setShare, setRule. */
final class SettingsTest {
    public static void main(String[] args) {
        newObject();
        capacity();
        share();
        rules();
        Due.end();
    }

    private static void newObject() {
        RoomKeeper x = new RoomKeeper();
        int[] numbers = {0, 20, 5, 10, -1, 0, 0, 0, 0, 0, 0, 0, 0, 0, 0};
        for (int what = 0; what < numbers.length; what++) {
            Due.is("new: count(" + what + ")", x.count(what), numbers[what]);
        }
        int[] ofMember = {0, -1, -1, 0, -1};
        for (int m = 0; m < 12; m++) {
            for (int what = 0; what < ofMember.length; what++) {
                Due.is("new: member(" + m + ", " + what + ")", x.member(m, what), ofMember[what]);
            }
        }
        int[] ofRoom = {3, 1, 0, 0, 0, 0, 0, 0, 0, 0};
        for (int r = 0; r < 5; r++) {
            for (int what = 0; what < ofRoom.length; what++) {
                Due.is("new: room(" + r + ", " + what + ")", x.room(r, what), ofRoom[what]);
            }
            Due.is("new: queue(" + r + ", 0)", x.queue(r, 0), -1);
        }
        Due.is("new: event(0, 0)", x.event(0, 0), -1);
        Due.is("new: unfairness()", x.unfairness(), 0);
        Due.is("new: empties()", x.empties(), 0);
        Due.is("new: restore(0)", x.restore(0), -3);
        Due.is("new: restore(1)", x.restore(1), -3);
        Due.is("new: clear()", x.clear(), 0);
        Due.is("new: run()", x.run(), 0);
    }

    private static void capacity() {
        RoomKeeper x = new RoomKeeper();
        long before = x.digest();
        int[][] bad = {{-1, 3}, {5, 3}, {0, 0}, {4, 9}, {0, -1}, {Integer.MIN_VALUE, 3}, {0, Integer.MAX_VALUE}};
        for (int[] a : bad) {
            Due.error(x, "setCapacity(" + a[0] + ", " + a[1] + ")", x.setCapacity(a[0], a[1]), -2, before);
        }
        for (int r = 0; r < 5; r++) {
            Due.is("first capacity", x.setCapacity(r, 8), 3);
            Due.is("capacity before", x.setCapacity(r, 1), 8);
            Due.is("capacity of room " + r, x.room(r, 0), 1);
        }
        Due.is("the first enters", x.request(0, 2, 9), 2);
        Due.is("the room is full with one", x.request(1, 2, 9), 1);
        Due.is("capacity grows", x.setCapacity(2, 3), 1);
        Due.is("but the keeper does not act", x.member(1, 0), 1);
        Due.is("foretold for the next tick", x.foretell(1), 1);
        x.pass(1);
        Due.is("only in the next tick it acts", x.member(1, 0), 2);
        Due.is("a third", x.request(2, 2, 9), 2);
        Due.is("capacity shrinks", x.setCapacity(2, 1), 3);
        Due.is("those inside stay", x.room(2, 3), 3);
        Due.is("one leaves", x.leave(0), 8);
        Due.is("still more than the capacity: nobody enters", x.request(0, 2, 9), 1);
        Due.is("two inside", x.room(2, 3), 2);
    }

    private static void share() {
        RoomKeeper x = new RoomKeeper();
        long before = x.digest();
        int[][] bad = {{-1, 1}, {5, 1}, {0, 0}, {0, 10}, {0, -9}};
        for (int[] a : bad) {
            Due.error(x, "setShare(" + a[0] + ", " + a[1] + ")", x.setShare(a[0], a[1]), -2, before);
        }
        int[] increase = {2520, 1260, 840, 630, 504, 420, 360, 315, 280};
        int score = 0, lastShare = 1;
        for (int share = 1; share <= 9; share++) {
            Due.is("share before", x.setShare(1, share), lastShare);
            lastShare = share;
            Due.is("share of room 1", x.room(1, 1), share);
            Due.is("request", x.request(0, 1, 1), 2);
            score += increase[share - 1];
            Due.is("score after an opening with share " + share, x.room(1, 2), score);
            Due.is("base", x.count(7), score - increase[share - 1]);
            x.leave(0);
        }
        Due.is("shares of other rooms", x.room(0, 1), 1);
    }

    private static void rules() {
        RoomKeeper x = new RoomKeeper();
        long before = x.digest();
        int[][] bad = {{-1, 1}, {3, 1}, {0, 0}, {0, 101}, {1, 0}, {1, 21}, {2, 0}, {2, 51}, {2, -1}};
        for (int[] a : bad) {
            Due.error(x, "setRule(" + a[0] + ", " + a[1] + ")", x.setRule(a[0], a[1]), -2, before);
        }
        int[] first = {20, 5, 10}, most = {100, 20, 50};
        for (int what = 0; what < 3; what++) {
            Due.is("first rule " + what, x.setRule(what, most[what]), first[what]);
            Due.is("count of rule " + what, x.count(1 + what), most[what]);
            Due.is("rule before " + what, x.setRule(what, 1), most[what]);
            Due.is("count of rule " + what, x.count(1 + what), 1);
        }
    }
}
