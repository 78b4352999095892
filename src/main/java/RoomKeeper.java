/**
 * Keeps rooms for groups: several members can be in one room at once, but no two rooms are in use at the same time.
 * Every call answers with a number; errors are numbers too, and nothing is ever thrown.
 */
public final class RoomKeeper {
    public static final int NONE = -1, BAD = -2, STATE = -3, FULL = -4;

    private static final int MEMBERS = 12, ROOMS = 5, SLOTS = 2;
    private static final int AWAY = 0, WAITING = 1, INSIDE = 2, COLLAPSED = 3;
    private static final int PATIENCE = 0, QUOTA = 1, ATTENTION = 2;
    private static final int MOST_CAPACITY = 8, MOST_SHARE = 9;
    private static final int MOST_PATIENCE = 100, MOST_QUOTA = 20, MOST_ATTENTION = 50;
    private static final int MOST_TICKS = 999, LAST_TIME = 20000, FORESIGHT = 500;
    /** More ticks than any call lets pass. */
    private static final int NEVER = 1000000;
    private static final int WHOLE_SHARE = 2520;
    private static final int FIRST_HASH = 549, FIRST_FAULT = -2000;
    private static final int MEMBER_PROPERTIES = 5, ROOM_PROPERTIES = 10, EVENT_PARTS = 4, NUMBERS = 15;

    private final House now;
    /** Foretelling is done on this one, which is made once so that no call has to make another. */
    private final House trial;
    private final House[] slots;
    private final boolean[] saved;
    private final Script script;

    public RoomKeeper() {
        now = new House();
        trial = new House();
        slots = new House[SLOTS];
        for (int i = 0; i < SLOTS; i++) {
            slots[i] = new House();
        }
        saved = new boolean[SLOTS];
        script = new Script();
    }

    public int setCapacity(int room, int capacity) {
        if (!isRoom(room) || !isWithin(capacity, 1, MOST_CAPACITY)) {
            return BAD;
        }
        int before = now.rooms[room].capacity;
        now.rooms[room].capacity = capacity;
        return before;
    }

    public int setShare(int room, int share) {
        if (!isRoom(room) || !isWithin(share, 1, MOST_SHARE)) {
            return BAD;
        }
        int before = now.rooms[room].share;
        now.rooms[room].share = share;
        return before;
    }

    public int setRule(int what, int value) {
        if (!isWithin(what, PATIENCE, ATTENTION) || !isWithin(value, 1, greatestOfRule(what))) {
            return BAD;
        }
        int before = now.rules[what];
        now.rules[what] = value;
        return before;
    }

    public int request(int member, int room, int ticks) {
        if (!isMember(member) || !isRoom(room) || !isWithin(ticks, 1, MOST_TICKS)) {
            return BAD;
        }
        if (now.members[member].state != AWAY) {
            return STATE;
        }
        now.queueUp(member, room, ticks);
        now.act();
        return now.members[member].state;
    }

    public int withdraw(int member) {
        if (!isMember(member)) {
            return BAD;
        }
        if (now.members[member].state != WAITING) {
            return STATE;
        }
        int waited = now.time - now.members[member].since;
        now.giveUp(member);
        now.act();
        return waited;
    }

    public int leave(int member) {
        if (!isMember(member)) {
            return BAD;
        }
        if (now.members[member].state != INSIDE) {
            return STATE;
        }
        int left = now.members[member].ticks;
        now.goOut(member, Log.LEFT);
        now.act();
        return left;
    }

    public int collapse(int member) {
        if (!isMember(member)) {
            return BAD;
        }
        if (now.members[member].state != INSIDE) {
            return STATE;
        }
        Member fallen = now.members[member];
        int left = fallen.ticks;
        fallen.become(COLLAPSED, fallen.room, now.time, 0);
        return left;
    }

    public int pass(int ticks) {
        if (!isWithin(ticks, 1, MOST_TICKS)) {
            return BAD;
        }
        int end = now.time + ticks;
        if (end > LAST_TIME) {
            return FULL;
        }
        for (int i = 0; i < ticks && now.time < end; i++) {
            now.tick();
            now.skipQuietTicks(end);
        }
        return now.time;
    }

    public int member(int member, int what) {
        if (!isMember(member) || !isWithin(what, 0, MEMBER_PROPERTIES - 1)) {
            return BAD;
        }
        Member asked = now.members[member];
        switch (what) {
            case 0: return asked.state;
            case 1: return asked.room;
            case 2: return asked.since;
            case 3: return asked.ticks;
            default: return now.countBefore(member);
        }
    }

    public int room(int room, int what) {
        if (!isRoom(room) || !isWithin(what, 0, ROOM_PROPERTIES - 1)) {
            return BAD;
        }
        Room asked = now.rooms[room];
        switch (what) {
            case 0: return asked.capacity;
            case 1: return asked.share;
            case 2: return asked.score;
            case 3: return asked.inside;
            case 4: return now.countQueue(room);
            case 5: return asked.openings;
            case 6: return asked.entries;
            case 7: return asked.ticksInside;
            case 8: return asked.waitedInAll;
            default: return asked.longestWait;
        }
    }

    public int queue(int room, int i) {
        if (!isRoom(room) || i < 0) {
            return BAD;
        }
        return now.inQueue(room, i);
    }

    public int event(int i, int what) {
        if (i < 0 || !isWithin(what, 0, EVENT_PARTS - 1)) {
            return BAD;
        }
        return now.log.part(i, what);
    }

    public int unfairness() {
        int opened = 0, least = 0, greatest = 0;
        for (int r = 0; r < ROOMS; r++) {
            Room served = now.rooms[r];
            if (served.openings > 0) {
                int value = served.byShare(served.ticksInside * WHOLE_SHARE);
                least = opened == 0 ? value : Math.min(least, value);
                greatest = opened == 0 ? value : Math.max(greatest, value);
                opened++;
            }
        }
        return greatest - least;
    }

    public int foretell(int member) {
        if (!isMember(member)) {
            return BAD;
        }
        if (now.members[member].state != WAITING) {
            return STATE;
        }
        return ticksUntilEntry(member, now.rules[QUOTA], FORESIGHT);
    }

    public int empties() {
        if (now.isDeserted()) {
            return 0;
        }
        trial.copyFrom(now);
        int end = now.time + FORESIGHT;
        for (int i = 0; i < FORESIGHT && trial.time < end; i++) {
            trial.tick();
            if (trial.isDeserted()) {
                return trial.time - now.time;
            }
            trial.skipQuietTicks(end);
        }
        return NONE;
    }

    public int bestQuota(int member, int what) {
        if (!isMember(member) || !isWithin(what, 0, 1)) {
            return BAD;
        }
        if (now.members[member].state != WAITING) {
            return STATE;
        }
        int best = NONE, soonest = NONE;
        for (int quota = 1; quota <= MOST_QUOTA; quota++) {
            int foresight = best == NONE ? FORESIGHT : soonest - 1;
            int ticks = ticksUntilEntry(member, quota, foresight);
            if (ticks != NONE) {
                best = quota;
                soonest = ticks;
            }
        }
        return what == 0 ? best : soonest;
    }

    public int type(int letter) {
        if (!isWithin(letter, 0, 127)) {
            return BAD;
        }
        if (script.length >= Script.MOST_BYTES) {
            return FULL;
        }
        script.append(letter);
        return script.length;
    }

    public int clear() {
        int before = script.length;
        script.length = 0;
        return before;
    }

    public int run() {
        int fault = script.read();
        if (fault != NONE) {
            return FIRST_FAULT - fault;
        }
        int good = 0;
        script.begin();
        for (int i = 0; i < Script.MOST_UNITS; i++) {
            int step = script.nextCall();
            if (step == NONE) {
                break;
            }
            if (carryOut(step) >= 0) {
                good++;
            }
        }
        now.units = script.units;
        return good;
    }

    public int save(int slot) {
        if (!isWithin(slot, 0, SLOTS - 1)) {
            return BAD;
        }
        slots[slot].copyFrom(now);
        saved[slot] = true;
        return now.time;
    }

    public int restore(int slot) {
        if (!isWithin(slot, 0, SLOTS - 1)) {
            return BAD;
        }
        if (!saved[slot]) {
            return STATE;
        }
        now.copyFrom(slots[slot]);
        return now.time;
    }

    public int count(int what) {
        switch (what) {
            case 0: return now.time;
            case 1: return now.rules[PATIENCE];
            case 2: return now.rules[QUOTA];
            case 3: return now.rules[ATTENTION];
            case 4: return now.inUse;
            case 5: return now.doorOpen ? 1 : 0;
            case 6: return now.entries;
            case 7: return now.base;
            case 8: return now.line.length;
            case 9: return now.countImpatient();
            case 10: return now.countCollapsed();
            case 11: return now.log.kept();
            case 12: return now.log.happened;
            case 13: return script.length;
            case 14: return now.units;
            default: return BAD;
        }
    }

    public long digest() {
        long hash = FIRST_HASH;
        for (int what = 0; what < NUMBERS; what++) {
            hash = 31 * hash + count(what);
        }
        for (int i = 0; i < MEMBERS * MEMBER_PROPERTIES; i++) {
            hash = 31 * hash + member(i / MEMBER_PROPERTIES, i % MEMBER_PROPERTIES);
        }
        for (int i = 0; i < ROOMS * ROOM_PROPERTIES; i++) {
            hash = 31 * hash + room(i / ROOM_PROPERTIES, i % ROOM_PROPERTIES);
        }
        int parts = now.log.kept() * EVENT_PARTS;
        for (int i = 0; i < parts; i++) {
            hash = 31 * hash + event(i / EVENT_PARTS, i % EVENT_PARTS);
        }
        hash = 31 * hash + unfairness();
        hash = 31 * hash + empties();
        for (int i = 0; i < script.length; i++) {
            hash = 31 * hash + script.bytes[i];
        }
        return hash;
    }

    private static boolean isWithin(int value, int least, int greatest) {
        return value >= least && value <= greatest;
    }

    private static boolean isMember(int member) {
        return isWithin(member, 0, MEMBERS - 1);
    }

    private static boolean isRoom(int room) {
        return isWithin(room, 0, ROOMS - 1);
    }

    private static int greatestOfRule(int what) {
        if (what == PATIENCE) {
            return MOST_PATIENCE;
        }
        return what == QUOTA ? MOST_QUOTA : MOST_ATTENTION;
    }

    /** NONE if the member does not enter within so many ticks. */
    private int ticksUntilEntry(int member, int quota, int foresight) {
        trial.copyFrom(now);
        trial.rules[QUOTA] = quota;
        int end = now.time + foresight;
        for (int i = 0; i < foresight && trial.time < end; i++) {
            trial.tick();
            if (trial.members[member].state == INSIDE) {
                return trial.time - now.time;
            }
            trial.skipQuietTicks(end);
        }
        return NONE;
    }

    private int carryOut(int step) {
        int member = script.members[step];
        switch (script.kinds[step]) {
            case 'r': return request(member, script.rooms[step], script.numbers[step]);
            case 'w': return withdraw(member);
            case 'l': return leave(member);
            case 'c': return collapse(member);
            default: return pass(script.numbers[step]);
        }
    }

    /** A member; its fields are what member() tells of it. */
    private static final class Member {
        int state = AWAY, room = NONE, since = NONE, ticks = 0;

        void become(int newState, int newRoom, int time, int newTicks) {
            state = newState;
            room = newRoom;
            since = time;
            ticks = newTicks;
        }

        void copyFrom(Member other) {
            become(other.state, other.room, other.since, other.ticks);
        }
    }

    /** A room with its settings and statistics. */
    private static final class Room {
        int capacity = 3, share = 1, score = 0, inside = 0;
        int openings = 0, entries = 0, ticksInside = 0, waitedInAll = 0, longestWait = 0;

        int byShare(int amount) {
            return share < 1 ? amount : amount / share;
        }

        void countEntry(int waited) {
            inside++;
            entries++;
            waitedInAll += waited;
            longestWait = Math.max(longestWait, waited);
        }

        void copyFrom(Room other) {
            capacity = other.capacity;
            share = other.share;
            score = other.score;
            inside = other.inside;
            openings = other.openings;
            entries = other.entries;
            ticksInside = other.ticksInside;
            waitedInAll = other.waitedInAll;
            longestWait = other.longestWait;
        }
    }

    /**
     * All waiting members in the order of their requests, whatever their rooms: so the first one has waited longest,
     * and the queue of a room is what remains without the others.
     */
    private static final class Line {
        final int[] places = new int[MEMBERS];
        int length = 0;

        void append(int member) {
            if (length < MEMBERS) {
                places[length] = member;
                length++;
            }
        }

        void remove(int member) {
            int kept = 0;
            for (int i = 0; i < length; i++) {
                if (places[i] != member) {
                    places[kept] = places[i];
                    kept++;
                }
            }
            length = kept;
        }

        void copyFrom(Line other) {
            length = other.length;
            System.arraycopy(other.places, 0, places, 0, MEMBERS);
        }
    }

    /** The latest events, in a ring. */
    private static final class Log {
        static final int OPENED = 0, ENTERED = 1, LEFT = 2, CLOSED = 3, REMOVED = 4;
        static final int MOST_EVENTS = 40;

        final int[] parts = new int[MOST_EVENTS * EVENT_PARTS];
        int happened = 0;

        void note(int time, int kind, int member, int room) {
            int start = happened % MOST_EVENTS * EVENT_PARTS;
            parts[start] = time;
            parts[start + 1] = kind;
            parts[start + 2] = member;
            parts[start + 3] = room;
            happened++;
        }

        int kept() {
            return Math.min(happened, MOST_EVENTS);
        }

        int part(int i, int what) {
            if (i >= kept()) {
                return NONE;
            }
            int event = happened - kept() + i;
            return parts[event % MOST_EVENTS * EVENT_PARTS + what];
        }

        void copyFrom(Log other) {
            happened = other.happened;
            System.arraycopy(other.parts, 0, parts, 0, parts.length);
        }
    }

    /** Everything that is saved and restored, and the rules by which it changes. */
    private static final class House {
        final Member[] members = new Member[MEMBERS];
        final Room[] rooms = new Room[ROOMS];
        final Line line = new Line();
        final Log log = new Log();
        final int[] rules = {20, 5, 10};
        int time = 0, base = 0, units = 0;
        /** The room in use; without one the door is told as closed and the entries as 0. */
        int inUse = NONE;
        boolean doorOpen = false;
        int entries = 0;

        House() {
            for (int m = 0; m < MEMBERS; m++) {
                members[m] = new Member();
            }
            for (int r = 0; r < ROOMS; r++) {
                rooms[r] = new Room();
            }
        }

        void queueUp(int member, int room, int ticks) {
            if (room != inUse && countQueue(room) == 0) {
                rooms[room].score = Math.max(rooms[room].score, base);
            }
            members[member].become(WAITING, room, time, ticks);
            line.append(member);
        }

        void giveUp(int member) {
            line.remove(member);
            members[member].become(AWAY, NONE, NONE, 0);
        }

        void goOut(int member, int kind) {
            int room = members[member].room;
            log.note(time, kind, member, room);
            members[member].become(AWAY, NONE, NONE, 0);
            rooms[room].inside--;
            if (rooms[room].inside == 0) {
                inUse = NONE;
                doorOpen = false;
                entries = 0;
            }
        }

        void tick() {
            time++;
            for (int m = 0; m < MEMBERS; m++) {
                Member member = members[m];
                if (member.state == INSIDE) {
                    spendTick(m);
                } else if (member.state == COLLAPSED && time - member.since >= rules[ATTENTION]) {
                    goOut(m, Log.REMOVED);
                }
            }
            act();
        }

        private void spendTick(int m) {
            Member member = members[m];
            rooms[member.room].ticksInside++;
            member.ticks--;
            if (member.ticks <= 0) {
                goOut(m, Log.LEFT);
            }
        }

        /**
         * Right after a tick, lets those pass at once in which nobody leaves or is removed. In them the keeper, who has
         * just acted, finds nothing to do either: nobody can come in, and so no door is closed, however impatient
         * others become. The time does not go beyond the end that is given.
         */
        void skipQuietTicks(int end) {
            int quiet = end - time;
            for (int m = 0; m < MEMBERS; m++) {
                quiet = Math.min(quiet, ticksToChange(m) - 1);
            }
            if (quiet <= 0) {
                return;
            }
            time += quiet;
            for (int m = 0; m < MEMBERS; m++) {
                if (members[m].state == INSIDE) {
                    members[m].ticks -= quiet;
                    rooms[members[m].room].ticksInside += quiet;
                }
            }
        }

        private int ticksToChange(int m) {
            Member member = members[m];
            switch (member.state) {
                case INSIDE: return member.ticks;
                case COLLAPSED: return member.since + rules[ATTENTION] - time;
                default: return NEVER;
            }
        }

        /** Somebody enters in each round but the last, so that there are no more rounds than members. */
        void act() {
            for (int i = 0; i < MEMBERS; i++) {
                if (inUse == NONE) {
                    openRoom(nextRoom());
                } else if (firstAtDoor() != NONE && isTurnOfOthers()) {
                    closeDoor();
                }
                int entering = firstAtDoor();
                if (entering == NONE) {
                    return;
                }
                letIn(entering);
            }
        }

        private int nextRoom() {
            if (line.length == 0) {
                return NONE;
            }
            int longestWaiting = line.places[0];
            if (isImpatient(longestWaiting)) {
                return members[longestWaiting].room;
            }
            int next = NONE;
            for (int i = 0; i < line.length; i++) {
                int room = members[line.places[i]].room;
                if (next == NONE || goesBefore(room, next)) {
                    next = room;
                }
            }
            return next;
        }

        private boolean goesBefore(int room, int other) {
            int score = rooms[room].score, otherScore = rooms[other].score;
            return score < otherScore || score == otherScore && room < other;
        }

        private void openRoom(int room) {
            if (room == NONE) {
                return;
            }
            Room opened = rooms[room];
            base = opened.score;
            opened.score += opened.byShare(WHOLE_SHARE);
            opened.openings++;
            inUse = room;
            doorOpen = true;
            entries = 0;
            log.note(time, Log.OPENED, NONE, room);
        }

        private void closeDoor() {
            doorOpen = false;
            log.note(time, Log.CLOSED, NONE, inUse);
        }

        /** The first of the queue of the room in use, if its door is open and it is not full; otherwise NONE. */
        private int firstAtDoor() {
            if (inUse == NONE || !doorOpen || rooms[inUse].inside >= rooms[inUse].capacity) {
                return NONE;
            }
            return inQueue(inUse, 0);
        }

        private boolean isTurnOfOthers() {
            boolean quotaReached = entries >= rules[QUOTA];
            for (int i = 0; i < line.length; i++) {
                int m = line.places[i];
                if (members[m].room != inUse && (quotaReached || isImpatient(m))) {
                    return true;
                }
            }
            return false;
        }

        private void letIn(int m) {
            Member member = members[m];
            rooms[member.room].countEntry(time - member.since);
            line.remove(m);
            member.become(INSIDE, member.room, time, member.ticks);
            entries++;
            log.note(time, Log.ENTERED, m, member.room);
        }

        private boolean isImpatient(int member) {
            return time - members[member].since >= rules[PATIENCE];
        }

        int countQueue(int room) {
            int waiting = 0;
            for (int i = 0; i < line.length; i++) {
                if (members[line.places[i]].room == room) {
                    waiting++;
                }
            }
            return waiting;
        }

        int inQueue(int room, int place) {
            int before = 0;
            for (int i = 0; i < line.length; i++) {
                int m = line.places[i];
                if (members[m].room == room) {
                    if (before == place) {
                        return m;
                    }
                    before++;
                }
            }
            return NONE;
        }

        int countBefore(int member) {
            int before = 0;
            for (int i = 0; i < line.length; i++) {
                int m = line.places[i];
                if (m == member) {
                    return before;
                }
                if (members[m].room == members[member].room) {
                    before++;
                }
            }
            return NONE;
        }

        int countImpatient() {
            int impatient = 0;
            for (int i = 0; i < line.length; i++) {
                if (isImpatient(line.places[i])) {
                    impatient++;
                }
            }
            return impatient;
        }

        int countCollapsed() {
            int collapsed = 0;
            for (int m = 0; m < MEMBERS; m++) {
                if (members[m].state == COLLAPSED) {
                    collapsed++;
                }
            }
            return collapsed;
        }

        /** True if all members are away. */
        boolean isDeserted() {
            return inUse == NONE && line.length == 0;
        }

        void copyFrom(House other) {
            for (int m = 0; m < MEMBERS; m++) {
                members[m].copyFrom(other.members[m]);
            }
            for (int r = 0; r < ROOMS; r++) {
                rooms[r].copyFrom(other.rooms[r]);
            }
            line.copyFrom(other.line);
            log.copyFrom(other.log);
            System.arraycopy(other.rules, 0, rules, 0, rules.length);
            time = other.time;
            base = other.base;
            units = other.units;
            inUse = other.inUse;
            doorOpen = other.doorOpen;
            entries = other.entries;
        }
    }

    /** The text, the steps that were read from it, and the walk through them. */
    private static final class Script {
        static final int MOST_BYTES = 100, MOST_DEPTH = 4, MOST_DIGITS = 3;
        static final int MOST_TIMES = 50, MOST_UNITS = 200;
        /** Every round of a walk uses up a unit or ends a repetition that has used one, so this is never reached. */
        static final int MOST_ROUNDS = 1000;

        final int[] bytes = new int[MOST_BYTES];
        int length = 0;

        /** A step's kind is its letter or parenthesis; the number of a ")" is the index of the step with its "(". */
        final int[] kinds = new int[MOST_BYTES];
        final int[] members = new int[MOST_BYTES];
        final int[] rooms = new int[MOST_BYTES];
        final int[] numbers = new int[MOST_BYTES];
        int steps = 0;

        private int at = 0, fault = NONE, depth = 0;
        private final int[] opened = new int[MOST_DEPTH];

        private int next = 0;
        int units = 0;
        private final int[] timesLeft = new int[MOST_BYTES];

        void append(int letter) {
            if (length < MOST_BYTES) {
                bytes[length] = letter;
                length++;
            }
        }

        /** Reads the text into steps; returns its fault, NONE if it has none. */
        int read() {
            at = 0;
            fault = NONE;
            depth = 0;
            steps = 0;
            skipBlanks();
            for (int i = 0; i < MOST_BYTES && at < length && fault == NONE; i++) {
                readStep();
                skipBlanks();
            }
            if (fault == NONE && depth > 0) {
                fault = length;
            }
            return fault;
        }

        private void readStep() {
            int kind = bytes[at];
            if (isDigit(kind)) {
                readOpening();
                return;
            }
            at++;
            switch (kind) {
                case ')':
                    readClosing();
                    break;
                case 'r':
                    readRequest();
                    break;
                case 'w':
                case 'l':
                case 'c':
                    addStep(kind, readByte('a', 'l') - 'a', 0, 0);
                    readByte(';', ';');
                    break;
                case 't':
                    addStep(kind, 0, 0, readNumber(MOST_TICKS));
                    readByte(';', ';');
                    break;
                default:
                    fault = at - 1;
            }
        }

        private void readRequest() {
            int member = readByte('a', 'l') - 'a';
            int room = readByte('0', '4') - '0';
            readByte(',', ',');
            addStep('r', member, room, readNumber(MOST_TICKS));
            readByte(';', ';');
        }

        private void readOpening() {
            int times = readNumber(MOST_TIMES);
            if (fault == NONE && depth >= MOST_DEPTH) {
                skipBlanks();
                fault = at;
            }
            readByte('(', '(');
            if (fault == NONE) {
                opened[depth] = steps;
                depth++;
                addStep('(', 0, 0, times);
            }
        }

        private void readClosing() {
            if (depth == 0) {
                fault = at - 1;
                return;
            }
            depth--;
            addStep(')', 0, 0, opened[depth]);
        }

        private void addStep(int kind, int member, int room, int number) {
            if (fault == NONE && steps < MOST_BYTES) {
                kinds[steps] = kind;
                members[steps] = member;
                rooms[steps] = room;
                numbers[steps] = number;
                steps++;
            }
        }

        /** At the end of the text the fault is the text's length, and that is where reading stands then. */
        private int readByte(int least, int greatest) {
            if (fault != NONE) {
                return least;
            }
            skipBlanks();
            if (at >= length || bytes[at] < least || bytes[at] > greatest) {
                fault = at;
                return least;
            }
            at++;
            return bytes[at - 1];
        }

        /** Without a digit the value is 0, and the fault is the same place as that of a number that is 0. */
        private int readNumber(int greatest) {
            if (fault != NONE) {
                return 0;
            }
            skipBlanks();
            int first = at, value = 0;
            for (int i = 0; i < MOST_DIGITS && at < length && isDigit(bytes[at]); i++) {
                value = value * 10 + bytes[at] - '0';
                at++;
            }
            if (value < 1 || value > greatest) {
                fault = first;
            }
            return value;
        }

        private void skipBlanks() {
            while (at < length && bytes[at] == ' ') {
                at++;
            }
        }

        private static boolean isDigit(int letter) {
            return letter >= '0' && letter <= '9';
        }

        void begin() {
            next = 0;
            units = 0;
        }

        /** Returns the index of the next step that is a call, after using up what is due; NONE if the script ends. */
        int nextCall() {
            for (int i = 0; i < MOST_ROUNDS && next < steps; i++) {
                int step = next;
                next++;
                if (kinds[step] == ')') {
                    endRepetition(numbers[step]);
                } else if (!useUnit()) {
                    return NONE;
                } else if (kinds[step] == '(') {
                    timesLeft[step] = numbers[step];
                } else {
                    return step;
                }
            }
            return NONE;
        }

        private void endRepetition(int opening) {
            timesLeft[opening]--;
            if (timesLeft[opening] > 0 && useUnit()) {
                next = opening + 1;
            }
        }

        /** Without a unit left the walk goes to the end of the script. */
        private boolean useUnit() {
            if (units >= MOST_UNITS) {
                next = steps;
                return false;
            }
            units++;
            return true;
        }
    }
}
