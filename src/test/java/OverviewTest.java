/** What the document says first: what the keeper is. */
final class OverviewTest {
    public static void main(String[] args) {
        for (int start = 0; start < 30; start++) {
            oneRoomForSeveralMembers(start);
        }
        opensByShares();
        opensByWaiting();
        closesDoors();
        noticesAndTells();
        Due.end();
    }

    /** Each call comes with ten that look at it, so that forty fit into the 512. */
    private static void oneRoomForSeveralMembers(int start) {
        Due.says("A keeper of rooms for groups: several members can be in the same room at once, but no two different "
            + "rooms are in use at the same time.");
        RoomKeeper x = new RoomKeeper();
        int most = 0;
        for (int i = start; i < start + 40; i++) {
            change(x, i);
            int used = 0;
            for (int r = 0; r < 5; r++) {
                int inside = x.room(r, 3);
                used += inside > 0 ? 1 : 0;
                most = Math.max(most, inside);
                Due.isTrue("only the room in use has members inside", inside == 0 || x.count(4) == r);
            }
            Due.isTrue("rooms in use: " + used, used <= 1);
        }
        Due.isTrue("several members were in one room", most > 1);
    }

    private static void change(RoomKeeper x, int i) {
        int member = i * 7 % 12;
        switch (i % 6) {
            case 0:
                x.collapse(member);
                break;
            case 1:
                x.leave(member);
                break;
            case 2:
                x.pass(1 + i % 5);
                break;
            default:
                x.request(member, i / 3 % 5, 1 + i % 9);
        }
    }

    /** Two members for each of the rooms 0 and 1, of whom one is inside at a time, for one tick. */
    private static RoomKeeper twoRooms(int share, int patience) {
        RoomKeeper x = new RoomKeeper();
        x.setCapacity(0, 1);
        x.setCapacity(1, 1);
        x.setShare(1, share);
        x.setRule(0, patience);
        for (int m = 0; m < 4; m++) {
            x.request(m, m / 2, 1);
        }
        return x;
    }

    private static void passAndRequestAgain(RoomKeeper x, int ticks) {
        for (int i = 0; i < ticks; i++) {
            x.pass(1);
            for (int m = 0; m < 4; m++) {
                x.request(m, m / 2, 1);
            }
        }
    }

    private static void opensByShares() {
        Due.says("The keeper decides which room is opened next, by shares and by how long members have waited, who "
            + "comes in, and when the door of a room in use is closed to newcomers so that other rooms get their "
            + "turn;");
        for (int share = 1; share <= 9; share++) {
            RoomKeeper x = twoRooms(share, 100);
            int rounds = 90 / (1 + share);
            passAndRequestAgain(x, rounds * (1 + share) - 1);
            Due.is("room 0 with the share 1", x.room(0, 5), rounds);
            Due.isTrue("room 1 with the share " + share + " had " + x.room(1, 5) + " openings for " + rounds,
                x.room(1, 5) == rounds * share);
        }
    }

    private static void opensByWaiting() {
        RoomKeeper patient = twoRooms(9, 100);
        passAndRequestAgain(patient, 3);
        Due.is("the share alone", patient.count(4), 1);
        RoomKeeper impatient = twoRooms(9, 3);
        passAndRequestAgain(impatient, 2);
        Due.is("nobody is impatient yet", impatient.count(4), 1);
        passAndRequestAgain(impatient, 1);
        Due.is("one has waited too long", impatient.count(4), 0);
        Due.is("the one that has waited", impatient.member(1, 0), 2);
        Due.isTrue("though its score is greater", impatient.room(0, 2) > 2520 + impatient.room(1, 2));
    }

    private static void closesDoors() {
        RoomKeeper x = new RoomKeeper();
        x.setRule(1, 2);
        Due.is("the first comes in", x.request(0, 0, 9), 2);
        Due.is("the second comes in", x.request(1, 0, 9), 2);
        Due.is("another room waits", x.request(2, 1, 9), 1);
        Due.is("a newcomer does not come in", x.request(3, 0, 9), 1);
        Due.is("the door is closed", x.count(5), 0);
        x.pass(9);
        Due.is("the other room gets its turn", x.member(2, 0), 2);
        Due.is("the newcomer still waits", x.member(3, 0), 1);
        x.pass(9);
        Due.is("until the other room is free", x.member(3, 0), 2);
    }

    private static void noticesAndTells() {
        Due.says("it notices members who have collapsed inside, keeps statistics and a log, foretells what will "
            + "happen, and carries out scripts with repetitions.");
        RoomKeeper x = Scenes.withText("2(ra0,4;t1;ca;rb1,3;)t8;");
        Due.is("in the second repetition only the tick is no error", x.run(), 4 + 1 + 1);
        Due.is("two repetitions and nine calls", x.count(14), 2 + 9);
        Due.is("the collapsed one is not noticed yet", x.count(10), 1);
        Due.is("foretold: the other one enters", x.foretell(1), 1);
        Due.is("foretold: all are away", x.empties(), 1 + 3);
        x.pass(1);
        Due.is("it is noticed", x.count(10), 0);
        Due.is("the ticks that it spent inside", x.room(0, 7), 1);
        Due.is("how long the other one has waited", x.room(1, 8), 10);
        Due.event(x, 0, 0, 0, -1, 0);
        Due.event(x, 1, 0, 1, 0, 0);
        Due.event(x, 2, 11, 4, 0, 0);
        Due.event(x, 3, 11, 0, -1, 1);
        Due.event(x, 4, 11, 1, 1, 1);
        Due.is("no other events", x.count(11), 5);
    }
}
