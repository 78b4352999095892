/** All promises: runs of 512 calls, drawn by a fixed rule, on RoomKeeper and on the plain model; all answers agree. */
final class ModelTest {
    private static final int RUNS = 1200;
    /** The digest at a run's end is its 512th call, the last one whose answer is promised. */
    private static final int CALLS = 511;
    private static final String LETTERS = "rwlct(),; 0123456789abcdefghijklmx";

    private long seed;
    private final int style;
    private final RoomKeeper x = new RoomKeeper();
    private final Model y = new Model();
    private String pending = "";
    private String call = "";

    private ModelTest(long seed) {
        this.seed = seed * 0x9E3779B97F4A7C15L + 1;
        this.style = (int) (seed % 6);
    }

    public static void main(String[] args) {
        for (int run = 0; run < RUNS; run++) {
            new ModelTest(run).compare(run);
        }
        Due.end();
    }

    private void compare(int run) {
        for (int i = 0; i < CALLS; i++) {
            long[] answers = step();
            Due.is("run " + run + ", call " + i + ", " + call, answers[0], answers[1]);
            if (answers[0] != answers[1]) {
                return;
            }
        }
        Due.is("run " + run + ", digest", x.digest(), y.digest());
    }

    private int draw(int bound) {
        seed = seed * 6364136223846793005L + 1442695040888963407L;
        return (int) ((seed >>> 33) % bound);
    }

    /** Mostly from least to most, at times just beyond. */
    private int near(int least, int most) {
        return draw(25) == 0 ? (draw(2) == 0 ? least - 1 : most + 1) : least + draw(most - least + 1);
    }

    private int ticks() {
        switch (style) {
            case 0: return near(1, 999);
            case 1: return near(1, 5);
            case 2: return near(1, 40);
            default: return draw(30) == 0 ? near(1, 999) : near(1, 12);
        }
    }

    private long[] step() {
        if (!pending.isEmpty()) {
            int letter = pending.charAt(0);
            pending = pending.substring(1);
            call = "type(" + letter + ")";
            return new long[] {x.type(letter), y.type(letter)};
        }
        int kind = draw(100);
        if (kind < 45) {
            return members(kind);
        }
        if (kind < 52) {
            return settings(draw(style == 4 ? 3 : 12));
        }
        if (kind < 75) {
            return told(draw(10));
        }
        if (kind < 90) {
            return numbers(draw(12));
        }
        return script(draw(8));
    }

    private long[] members(int kind) {
        int m = near(0, 11);
        if (kind < 22) {
            int r = near(0, style == 5 ? 1 : 4);
            int t = ticks();
            call = "request(" + m + ", " + r + ", " + t + ")";
            return new long[] {x.request(m, r, t), y.request(m, r, t)};
        }
        if (kind < 24) {
            call = "withdraw(" + m + ")";
            return new long[] {x.withdraw(m), y.withdraw(m)};
        }
        if (kind < 28) {
            call = "leave(" + m + ")";
            return new long[] {x.leave(m), y.leave(m)};
        }
        if (kind < 31) {
            call = "collapse(" + m + ")";
            return new long[] {x.collapse(m), y.collapse(m)};
        }
        int t = ticks();
        call = "pass(" + t + ")";
        return new long[] {x.pass(t), y.pass(t)};
    }

    private long[] settings(int kind) {
        int r = near(0, 4);
        if (kind == 0) {
            int c = near(1, 8);
            call = "setCapacity(" + r + ", " + c + ")";
            return new long[] {x.setCapacity(r, c), y.setCapacity(r, c)};
        }
        if (kind == 1) {
            int s = near(1, 9);
            call = "setShare(" + r + ", " + s + ")";
            return new long[] {x.setShare(r, s), y.setShare(r, s)};
        }
        int what = near(0, 2);
        int value = draw(2) == 0 ? near(1, 6) : near(1, new int[] {100, 20, 50}[Math.max(0, Math.min(2, what))]);
        call = "setRule(" + what + ", " + value + ")";
        return new long[] {x.setRule(what, value), y.setRule(what, value)};
    }

    private long[] told(int kind) {
        int m = near(0, 11);
        int r = near(0, 4);
        switch (kind) {
            case 0: {
                int what = near(0, 4);
                call = "member(" + m + ", " + what + ")";
                return new long[] {x.member(m, what), y.member(m, what)};
            }
            case 1: {
                int what = near(0, 9);
                call = "room(" + r + ", " + what + ")";
                return new long[] {x.room(r, what), y.room(r, what)};
            }
            case 2: {
                int i = near(0, 5);
                call = "queue(" + r + ", " + i + ")";
                return new long[] {x.queue(r, i), y.queue(r, i)};
            }
            case 3: {
                int i = near(0, 40);
                int what = near(0, 3);
                call = "event(" + i + ", " + what + ")";
                return new long[] {x.event(i, what), y.event(i, what)};
            }
            case 4: {
                call = "unfairness()";
                return new long[] {x.unfairness(), y.unfairness()};
            }
            case 5:
            case 6: {
                call = "foretell(" + m + ")";
                return new long[] {x.foretell(m), y.foretell(m)};
            }
            case 7: {
                call = "empties()";
                return new long[] {x.empties(), y.empties()};
            }
            default: {
                int what = near(0, 1);
                call = "bestQuota(" + m + ", " + what + ")";
                return new long[] {x.bestQuota(m, what), y.bestQuota(m, what)};
            }
        }
    }

    private long[] numbers(int kind) {
        int slot = near(0, 1);
        if (kind < 2) {
            call = "save(" + slot + ")";
            return new long[] {x.save(slot), y.save(slot)};
        }
        if (kind < 3) {
            call = "restore(" + slot + ")";
            return new long[] {x.restore(slot), y.restore(slot)};
        }
        if (kind < 8) {
            int what = near(0, 14);
            call = "count(" + what + ")";
            return new long[] {x.count(what), y.count(what)};
        }
        call = "digest()";
        return new long[] {x.digest(), y.digest()};
    }

    private long[] script(int kind) {
        if (kind < 4) {
            call = "run()";
            return new long[] {x.run(), y.run()};
        }
        if (kind < 5) {
            pending = draw(2) == 0 ? steps(0) : broken(steps(0));
        }
        call = "clear()";
        return new long[] {x.clear(), y.clear()};
    }

    private String blank() {
        return draw(12) == 0 ? " " : "";
    }

    private char guest() {
        return (char) ('a' + draw(12));
    }

    private String steps(int depth) {
        StringBuilder s = new StringBuilder();
        int n = draw(depth == 0 ? 7 : 4);
        for (int i = 0; i < n; i++) {
            s.append(blank());
            int kind = draw(10);
            if (kind < 3) {
                s.append("r").append(blank()).append(guest()).append(blank()).append(draw(5)).append(blank())
                    .append(",").append(blank()).append(1 + draw(30)).append(blank()).append(";");
            } else if (kind < 6) {
                s.append("wlc".charAt(kind - 3)).append(blank()).append(guest()).append(blank()).append(";");
            } else if (kind < 8 || depth > 4) {
                s.append("t").append(draw(4) == 0 ? "00" : "").append(1 + draw(9)).append(";");
            } else {
                s.append(draw(3) == 0 ? 1 + draw(50) : 1 + draw(4)).append(blank()).append("(")
                    .append(steps(depth + 1)).append(")");
            }
        }
        return s.append(blank()).toString();
    }

    private String broken(String text) {
        StringBuilder s = new StringBuilder(text);
        int changes = 1 + draw(2);
        for (int i = 0; i < changes && s.length() > 0; i++) {
            int at = draw(s.length());
            char letter = LETTERS.charAt(draw(LETTERS.length()));
            int kind = draw(3);
            if (kind == 0) {
                s.setCharAt(at, letter);
            } else if (kind == 1) {
                s.insert(at, letter);
            } else {
                s.deleteCharAt(at);
            }
        }
        return s.toString();
    }
}
