/** Keepers with which several tests begin. All are made by few calls, so that many are left of the 512. */
final class Scenes {
    private Scenes() {
    }

    /**
     * At the time 6 room 1 is in use and full with member 0 inside and 1 collapsed; 2 waits for it, 3 for room 0, 4 for
     * room 2; the others are away. Slot 0 is saved, slot 1 is not; the text has the fault 3; the base is not 0.
     */
    static RoomKeeper busy() {
        RoomKeeper x = new RoomKeeper();
        x.setCapacity(1, 2);
        x.setShare(1, 4);
        x.request(0, 1, 9);
        x.leave(0);
        x.request(0, 1, 90);
        x.save(0);
        x.request(1, 1, 80);
        type(x, "t2;");
        x.run();
        x.request(2, 1, 70);
        x.pass(1);
        x.request(3, 0, 60);
        x.request(4, 2, 50);
        x.collapse(1);
        x.pass(3);
        x.clear();
        type(x, "t5;x");
        return x;
    }

    static RoomKeeper atTime(int time) {
        RoomKeeper x = new RoomKeeper();
        for (int passed = 0; passed < time; passed += 999) {
            x.pass(Math.min(999, time - passed));
        }
        return x;
    }

    static RoomKeeper withText(String text) {
        RoomKeeper x = new RoomKeeper();
        type(x, text);
        return x;
    }

    static void type(RoomKeeper x, String text) {
        for (int i = 0; i < text.length(); i++) {
            x.type(text.charAt(i));
        }
    }

    static String repeated(String part, int times) {
        StringBuilder text = new StringBuilder();
        for (int i = 0; i < times; i++) {
            text.append(part);
        }
        return text.toString();
    }
}
