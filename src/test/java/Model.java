import java.util.ArrayList;
import java.util.List;

/**
 * The document once more, as plainly as it can be said: tick by tick, everything counted anew when it is asked for, and
 * a new copy for each thing foretold. It shares no code with RoomKeeper, so that a slip in one of them shows.
 */
final class Model {
    private static final class Guest {
        int state;
        int room = -1;
        int since = -1;
        int ticks;
        long call;
    }

    private static final class Chamber {
        int capacity = 3;
        int share = 1;
        int score;
        int opened;
        int entered;
        int spent;
        int waitSum;
        int waitMost;
    }

    private static final class World {
        int time;
        int patience = 20;
        int quota = 5;
        int attention = 10;
        int base;
        boolean door;
        int doorEntries;
        int units;
        int happened;
        long calls;
        final Guest[] guests = new Guest[12];
        final Chamber[] chambers = new Chamber[5];
        final List<int[]> log = new ArrayList<>();

        World() {
            for (int i = 0; i < 12; i++) {
                guests[i] = new Guest();
            }
            for (int i = 0; i < 5; i++) {
                chambers[i] = new Chamber();
            }
        }

        World copy() {
            World w = new World();
            w.time = time;
            w.patience = patience;
            w.quota = quota;
            w.attention = attention;
            w.base = base;
            w.door = door;
            w.doorEntries = doorEntries;
            w.units = units;
            w.happened = happened;
            w.calls = calls;
            for (int i = 0; i < 12; i++) {
                w.guests[i].state = guests[i].state;
                w.guests[i].room = guests[i].room;
                w.guests[i].since = guests[i].since;
                w.guests[i].ticks = guests[i].ticks;
                w.guests[i].call = guests[i].call;
            }
            for (int i = 0; i < 5; i++) {
                w.chambers[i].capacity = chambers[i].capacity;
                w.chambers[i].share = chambers[i].share;
                w.chambers[i].score = chambers[i].score;
                w.chambers[i].opened = chambers[i].opened;
                w.chambers[i].entered = chambers[i].entered;
                w.chambers[i].spent = chambers[i].spent;
                w.chambers[i].waitSum = chambers[i].waitSum;
                w.chambers[i].waitMost = chambers[i].waitMost;
            }
            w.log.addAll(log);
            return w;
        }

        void note(int kind, int member, int room) {
            log.add(new int[] {time, kind, member, room});
            if (log.size() > 40) {
                log.remove(0);
            }
            happened++;
        }

        int within(int room) {
            int n = 0;
            for (Guest g : guests) {
                if (g.state >= 2 && g.room == room) {
                    n++;
                }
            }
            return n;
        }

        int used() {
            for (int r = 0; r < 5; r++) {
                if (within(r) > 0) {
                    return r;
                }
            }
            return -1;
        }

        List<Integer> waitingFor(int room) {
            List<Integer> found = new ArrayList<>();
            for (int m = 0; m < 12; m++) {
                if (guests[m].state == 1 && guests[m].room == room) {
                    int at = 0;
                    while (at < found.size() && guests[found.get(at)].call < guests[m].call) {
                        at++;
                    }
                    found.add(at, m);
                }
            }
            return found;
        }

        boolean impatient(Guest g) {
            return g.state == 1 && time - g.since >= patience;
        }

        void enter(int m) {
            Guest g = guests[m];
            Chamber c = chambers[g.room];
            int waited = time - g.since;
            g.state = 2;
            g.since = time;
            c.entered++;
            c.waitSum += waited;
            if (waited > c.waitMost) {
                c.waitMost = waited;
            }
            doorEntries++;
            note(1, m, g.room);
        }

        void act() {
            boolean applies = true;
            while (applies) {
                applies = used() < 0 ? open() : admit();
            }
        }

        boolean open() {
            Guest eager = null;
            for (Guest g : guests) {
                if (impatient(g) && (eager == null || g.since < eager.since
                    || g.since == eager.since && g.call < eager.call)) {
                    eager = g;
                }
            }
            int room = eager == null ? -1 : eager.room;
            if (eager == null) {
                for (int r = 4; r >= 0; r--) {
                    if (!waitingFor(r).isEmpty() && (room < 0 || chambers[r].score <= chambers[room].score)) {
                        room = r;
                    }
                }
            }
            if (room < 0) {
                return false;
            }
            base = chambers[room].score;
            chambers[room].score += 2520 / chambers[room].share;
            chambers[room].opened++;
            door = true;
            doorEntries = 0;
            note(0, -1, room);
            enter(waitingFor(room).get(0));
            return true;
        }

        boolean admit() {
            int room = used();
            List<Integer> queue = waitingFor(room);
            if (!door || queue.isEmpty() || within(room) >= chambers[room].capacity) {
                return false;
            }
            boolean others = false;
            boolean eager = false;
            for (Guest g : guests) {
                if (g.state == 1 && g.room != room) {
                    others = true;
                    eager |= impatient(g);
                }
            }
            if (others && (doorEntries >= quota || eager)) {
                door = false;
                note(3, -1, room);
            } else {
                enter(queue.get(0));
            }
            return true;
        }

        void away(int m, int kind) {
            note(kind, m, guests[m].room);
            long call = guests[m].call;
            guests[m] = new Guest();
            guests[m].call = call;
        }

        void tick() {
            time++;
            for (int m = 0; m < 12; m++) {
                Guest g = guests[m];
                if (g.state == 2) {
                    chambers[g.room].spent++;
                    g.ticks--;
                    if (g.ticks == 0) {
                        away(m, 2);
                    }
                } else if (g.state == 3 && time - g.since >= attention) {
                    away(m, 4);
                }
            }
            act();
        }
    }

    private World w = new World();
    private final World[] slots = new World[2];
    private String text = "";

    private static boolean out(int value, int least, int most) {
        return value < least || value > most;
    }

    int setCapacity(int room, int capacity) {
        if (out(room, 0, 4) || out(capacity, 1, 8)) {
            return -2;
        }
        int before = w.chambers[room].capacity;
        w.chambers[room].capacity = capacity;
        return before;
    }

    int setShare(int room, int share) {
        if (out(room, 0, 4) || out(share, 1, 9)) {
            return -2;
        }
        int before = w.chambers[room].share;
        w.chambers[room].share = share;
        return before;
    }

    int setRule(int what, int value) {
        int before;
        if (what == 0 && !out(value, 1, 100)) {
            before = w.patience;
            w.patience = value;
        } else if (what == 1 && !out(value, 1, 20)) {
            before = w.quota;
            w.quota = value;
        } else if (what == 2 && !out(value, 1, 50)) {
            before = w.attention;
            w.attention = value;
        } else {
            return -2;
        }
        return before;
    }

    int request(int member, int room, int ticks) {
        if (out(member, 0, 11) || out(room, 0, 4) || out(ticks, 1, 999)) {
            return -2;
        }
        Guest g = w.guests[member];
        if (g.state != 0) {
            return -3;
        }
        if (w.used() != room && w.waitingFor(room).isEmpty() && w.chambers[room].score < w.base) {
            w.chambers[room].score = w.base;
        }
        g.state = 1;
        g.room = room;
        g.since = w.time;
        g.ticks = ticks;
        g.call = w.calls++;
        w.act();
        return w.guests[member].state;
    }

    int withdraw(int member) {
        if (out(member, 0, 11)) {
            return -2;
        }
        if (w.guests[member].state != 1) {
            return -3;
        }
        int waited = w.time - w.guests[member].since;
        w.guests[member] = new Guest();
        w.act();
        return waited;
    }

    int leave(int member) {
        if (out(member, 0, 11)) {
            return -2;
        }
        if (w.guests[member].state != 2) {
            return -3;
        }
        int left = w.guests[member].ticks;
        w.away(member, 2);
        w.act();
        return left;
    }

    int collapse(int member) {
        if (out(member, 0, 11)) {
            return -2;
        }
        Guest g = w.guests[member];
        if (g.state != 2) {
            return -3;
        }
        int left = g.ticks;
        g.state = 3;
        g.since = w.time;
        g.ticks = 0;
        return left;
    }

    int pass(int ticks) {
        if (out(ticks, 1, 999)) {
            return -2;
        }
        if (w.time + ticks > 20000) {
            return -4;
        }
        for (int i = 0; i < ticks; i++) {
            w.tick();
        }
        return w.time;
    }

    int member(int member, int what) {
        if (out(member, 0, 11) || out(what, 0, 4)) {
            return -2;
        }
        Guest g = w.guests[member];
        if (what == 4) {
            return g.state == 1 ? w.waitingFor(g.room).indexOf(member) : -1;
        }
        return new int[] {g.state, g.room, g.since, g.ticks}[what];
    }

    int room(int room, int what) {
        if (out(room, 0, 4) || out(what, 0, 9)) {
            return -2;
        }
        Chamber c = w.chambers[room];
        return new int[] {c.capacity, c.share, c.score, w.within(room), w.waitingFor(room).size(), c.opened, c.entered,
            c.spent, c.waitSum, c.waitMost}[what];
    }

    int queue(int room, int i) {
        if (out(room, 0, 4) || i < 0) {
            return -2;
        }
        List<Integer> queue = w.waitingFor(room);
        return i < queue.size() ? queue.get(i) : -1;
    }

    int event(int i, int what) {
        if (i < 0 || out(what, 0, 3)) {
            return -2;
        }
        return i < w.log.size() ? w.log.get(i)[what] : -1;
    }

    int unfairness() {
        List<Integer> values = new ArrayList<>();
        for (Chamber c : w.chambers) {
            if (c.opened > 0) {
                values.add(c.spent * 2520 / c.share);
            }
        }
        if (values.size() < 2) {
            return 0;
        }
        values.sort(null);
        return values.get(values.size() - 1) - values.get(0);
    }

    private int entryOf(int member, int quota) {
        World v = w.copy();
        v.quota = quota;
        for (int t = 1; t <= 500; t++) {
            v.tick();
            if (v.guests[member].state == 2) {
                return t;
            }
        }
        return -1;
    }

    int foretell(int member) {
        if (out(member, 0, 11)) {
            return -2;
        }
        return w.guests[member].state == 1 ? entryOf(member, w.quota) : -3;
    }

    int empties() {
        World v = w.copy();
        for (int t = 0; t <= 500; t++) {
            boolean all = true;
            for (Guest g : v.guests) {
                all &= g.state == 0;
            }
            if (all) {
                return t;
            }
            v.tick();
        }
        return -1;
    }

    int bestQuota(int member, int what) {
        if (out(member, 0, 11) || out(what, 0, 1)) {
            return -2;
        }
        if (w.guests[member].state != 1) {
            return -3;
        }
        int best = -1;
        int soonest = Integer.MAX_VALUE;
        for (int quota = 1; quota <= 20; quota++) {
            int t = entryOf(member, quota);
            if (t >= 0 && t < soonest) {
                best = quota;
                soonest = t;
            }
        }
        if (best < 0) {
            return -1;
        }
        return what == 0 ? best : soonest;
    }

    int type(int letter) {
        if (out(letter, 0, 127)) {
            return -2;
        }
        if (text.length() == 100) {
            return -4;
        }
        text += (char) letter;
        return text.length();
    }

    int clear() {
        int before = text.length();
        text = "";
        return before;
    }

    int run() {
        int fault = new ModelScript(text, null).fault();
        if (fault >= 0) {
            return -2000 - fault;
        }
        ModelScript script = new ModelScript(text, this);
        int good = script.carryOut();
        w.units = script.used();
        return good;
    }

    int save(int slot) {
        if (out(slot, 0, 1)) {
            return -2;
        }
        slots[slot] = w.copy();
        return w.time;
    }

    int restore(int slot) {
        if (out(slot, 0, 1)) {
            return -2;
        }
        if (slots[slot] == null) {
            return -3;
        }
        w = slots[slot].copy();
        return w.time;
    }

    int count(int what) {
        if (out(what, 0, 14)) {
            return -2;
        }
        int used = w.used();
        int waiting = 0;
        int impatient = 0;
        int collapsed = 0;
        for (Guest g : w.guests) {
            waiting += g.state == 1 ? 1 : 0;
            impatient += w.impatient(g) ? 1 : 0;
            collapsed += g.state == 3 ? 1 : 0;
        }
        return new int[] {w.time, w.patience, w.quota, w.attention, used, used >= 0 && w.door ? 1 : 0,
            used >= 0 ? w.doorEntries : 0, w.base, waiting, impatient, collapsed, w.log.size(), w.happened,
            text.length(), w.units}[what];
    }

    long digest() {
        List<Integer> numbers = new ArrayList<>();
        for (int what = 0; what <= 14; what++) {
            numbers.add(count(what));
        }
        for (int m = 0; m < 12; m++) {
            for (int what = 0; what <= 4; what++) {
                numbers.add(member(m, what));
            }
        }
        for (int r = 0; r < 5; r++) {
            for (int what = 0; what <= 9; what++) {
                numbers.add(room(r, what));
            }
        }
        for (int[] event : w.log) {
            for (int part : event) {
                numbers.add(part);
            }
        }
        numbers.add(unfairness());
        numbers.add(empties());
        for (char letter : text.toCharArray()) {
            numbers.add((int) letter);
        }
        long hash = 549;
        for (int number : numbers) {
            hash = hash * 31 + number;
        }
        return hash;
    }
}
