import java.util.ArrayList;
import java.util.List;

/**
 * A script read in another way than RoomKeeper does: all the bytes that could stand at a place are known before it is
 * looked at, and the steps make a tree.
 */
final class ModelScript {
    private static final class Fault extends RuntimeException {
        private static final long serialVersionUID = 1L;
        final int place;

        Fault(int place) {
            super(null, null, false, false);
            this.place = place;
        }
    }

    private static final class End extends RuntimeException {
        private static final long serialVersionUID = 1L;

        End() {
            super(null, null, false, false);
        }
    }

    private static final class Node {
        char kind;
        int member;
        int room;
        int number;
        List<Node> inner;
    }

    private final String text;
    private final Model model;
    private int at = 0;
    private int used = 0;
    private int good = 0;

    ModelScript(String text, Model model) {
        this.text = text;
        this.model = model;
    }

    /** The place of the fault, -1 without one. */
    int fault() {
        try {
            steps(0);
            return -1;
        } catch (Fault f) {
            return f.place;
        }
    }

    int used() {
        return used;
    }

    int carryOut() {
        List<Node> script = steps(0);
        try {
            carryOut(script);
        } catch (End e) {
            return good;
        }
        return good;
    }

    private void unit() {
        if (used == 200) {
            throw new End();
        }
        used++;
    }

    private void carryOut(List<Node> nodes) {
        for (Node n : nodes) {
            if (n.kind == '(') {
                for (int i = 0; i < n.number; i++) {
                    unit();
                    carryOut(n.inner);
                }
            } else {
                unit();
                int answer = call(n);
                good += answer == -2 || answer == -3 || answer == -4 ? 0 : 1;
            }
        }
    }

    private int call(Node n) {
        if (n.kind == 'r') {
            return model.request(n.member, n.room, n.number);
        }
        if (n.kind == 'w') {
            return model.withdraw(n.member);
        }
        if (n.kind == 'l') {
            return model.leave(n.member);
        }
        return n.kind == 'c' ? model.collapse(n.member) : model.pass(n.number);
    }

    private char take(String allowed) {
        while (at < text.length() && text.charAt(at) == ' ') {
            at++;
        }
        if (at == text.length() || allowed.indexOf(text.charAt(at)) < 0) {
            throw new Fault(at);
        }
        return text.charAt(at++);
    }

    private boolean more() {
        while (at < text.length() && text.charAt(at) == ' ') {
            at++;
        }
        return at < text.length();
    }

    private int number(int most) {
        take("0123456789");
        int first = at - 1;
        int end = first;
        while (end < text.length() && end < first + 3 && text.charAt(end) >= '0' && text.charAt(end) <= '9') {
            end++;
        }
        int value = Integer.parseInt(text.substring(first, end));
        if (value == 0 || value > most) {
            throw new Fault(first);
        }
        at = end;
        return value;
    }

    private List<Node> steps(int depth) {
        List<Node> nodes = new ArrayList<>();
        while (true) {
            if (!more()) {
                if (depth > 0) {
                    throw new Fault(text.length());
                }
                return nodes;
            }
            if (depth > 0 && text.charAt(at) == ')') {
                at++;
                return nodes;
            }
            nodes.add(step(depth));
        }
    }

    private Node step(int depth) {
        Node n = new Node();
        n.kind = take("rwlct0123456789");
        if (n.kind >= '0' && n.kind <= '9') {
            at--;
            n.number = number(50);
            n.kind = take(depth < 4 ? "(" : "");
            n.inner = steps(depth + 1);
            return n;
        }
        if (n.kind != 't') {
            n.member = take("abcdefghijkl") - 'a';
        }
        if (n.kind == 'r') {
            n.room = take("01234") - '0';
            take(",");
        }
        if (n.kind == 'r' || n.kind == 't') {
            n.number = number(999);
        }
        take(";");
        return n;
    }
}
