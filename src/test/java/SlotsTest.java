/** Promises 21 to 24: save, restore, count, digest. */
final class SlotsTest {
    public static void main(String[] args) {
        wrongInputs();
        savingAndRestoring();
        slotsAreApart();
        counting();
        digests();
        Due.end();
    }

    private static void wrongInputs() {
        RoomKeeper x = new RoomKeeper();
        x.pass(3);
        long before = x.digest();
        for (int slot : new int[] {-1, 2, Integer.MIN_VALUE, Integer.MAX_VALUE}) {
            Due.error(x, "save(" + slot + ")", x.save(slot), -2, before);
            Due.error(x, "restore(" + slot + ")", x.restore(slot), -2, before);
        }
        Due.error(x, "restore(0)", x.restore(0), -3, before);
        x.save(0);
        Due.error(x, "restore(1)", x.restore(1), -3, before);
        for (int what : new int[] {-1, 15, Integer.MIN_VALUE, Integer.MAX_VALUE}) {
            Due.error(x, "count(" + what + ")", x.count(what), -2, before);
        }
    }

    /** A keeper in whom every kind of state is used. */
    private static RoomKeeper busy() {
        RoomKeeper x = new RoomKeeper();
        x.setCapacity(1, 2);
        x.setShare(1, 4);
        x.setRule(0, 6);
        x.setRule(1, 2);
        x.setRule(2, 9);
        Due.text(x, "ra1,9;rb1,8;t2;rc1,7;re0,6;rd2,5;ca;t6;");
        x.run();
        x.clear();
        return x;
    }

    private static void spoil(RoomKeeper x) {
        x.setCapacity(1, 7);
        x.setCapacity(0, 7);
        x.setShare(1, 8);
        x.setShare(2, 8);
        x.setRule(0, 50);
        x.setRule(1, 17);
        x.setRule(2, 3);
        Due.text(x, "rf3,9;t50;rg4,2;rh4,7;t1;cg;ri0,5;");
        x.run();
        Due.text(x, "lh;t9;20(rk3,1;lk;)");
        x.run();
        x.clear();
    }

    private static void savingAndRestoring() {
        RoomKeeper x = busy();
        long before = x.digest();
        Due.is("units", x.count(14), 8);
        Due.is("save returns the time", x.save(1), 8);
        Due.is("saving changes nothing", x.digest(), before);
        for (int i = 0; i < 3; i++) {
            spoil(x);
            Due.is("everything is otherwise", x.digest() == before ? 1 : 0, 0);
            Due.is("restore returns the time then", x.restore(1), 8);
            Due.is("everything but the text is as before", x.digest(), before);
        }
        Due.is("the units too", x.count(14), 8);
        Due.text(x, "t1;");
        x.restore(1);
        Due.is("the text stays", x.count(13), 3);
        Due.is("and runs", x.run(), 1);
        RoomKeeper y = busy();
        Due.text(y, "t1;");
        y.run();
        Due.is("what follows is the same as without saving", x.digest(), y.digest());
    }

    private static void slotsAreApart() {
        RoomKeeper x = new RoomKeeper();
        x.save(0);
        long empty = x.digest();
        x.request(0, 0, 9);
        x.pass(5);
        x.save(1);
        long inside = x.digest();
        Due.is("restore(0)", x.restore(0), 0);
        Due.is("the empty house", x.digest(), empty);
        Due.is("restore(1)", x.restore(1), 5);
        Due.is("the house with one", x.digest(), inside);
        x.pass(2);
        Due.is("in place of what was saved", x.save(0), 7);
        Due.is("restore(1) is as before", x.restore(1), 5);
        Due.is("restore(0)", x.restore(0), 7);
        Due.is("ticks left", x.member(0, 3), 2);
    }

    private static void counting() {
        RoomKeeper x = busy();
        // At 8 room 1 holds b's last tick behind it, a collapsed, c inside; the others wait since 2.
        int[] want = {8, 6, 2, 9, 1, 0, 2, 0, 3, 3, 1, 5, 5, 0, 8};
        for (int what = 0; what < want.length; what++) {
            Due.is("count(" + what + ")", x.count(what), want[what]);
        }
        x.type(49);
        Due.is("bytes", x.count(13), 1);
        x.pass(3);
        Due.is("another room in use", x.count(4), 1);
        Due.is("its door", x.count(5), 1);
        Due.is("impatient ones that still wait", x.count(9), 2);
        Due.is("base", x.count(7), 630);
    }

    private static void digests() {
        RoomKeeper x = new RoomKeeper();
        Due.is("digest of a new object", x.digest(), Due.digest(x, ""));
        x = busy();
        Due.is("digest of a busy keeper", x.digest(), Due.digest(x, ""));
        x = busy();
        Due.text(x, "50(ra1,1;t1;)");
        Due.is("digest with a text", x.digest(), Due.digest(x, "50(ra1,1;t1;)"));
        x = busy();
        Due.text(x, "50(ra1,1;t1;)");
        x.run();
        Due.is("digest with a full log", x.digest(), Due.digest(x, "50(ra1,1;t1;)"));
        Due.is("digest twice", x.digest(), x.digest());
    }
}
