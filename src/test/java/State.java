import java.util.ArrayList;
import java.util.List;

/** What an object tells, line by line, for tests of what a call has not done. It uses the object up. */
final class State {
    private static final int SHIPS = 10;

    private final SquadronFlags x;
    private final List<String> lines = new ArrayList<>();

    private State(SquadronFlags x) {
        this.x = x;
    }

    /** Some 150 calls. Without the tape, or the FAULT, where a call is to change just that. */
    static List<String> of(SquadronFlags x, boolean tape, boolean fault) {
        State state = new State(x);
        state.told(fault);
        state.flags();
        state.acts();
        if (tape) {
            state.tape();
        }
        return state.lines;
    }

    private void line(String name, int... answers) {
        StringBuilder all = new StringBuilder(name);
        for (int answer : answers) {
            all.append(' ').append(answer);
        }
        lines.add(all.toString());
    }

    /** What the latest of several calls told. */
    private void told(boolean fault) {
        line("all", x.all(0), x.all(1), x.all(2), x.all(3));
        if (fault) {
            line("fault", x.fault(0), x.fault(1));
        }
        line("sent", x.sent(0), x.sent(1), x.sent(2));
        line("changed", x.changed(0), x.changed(1), x.changed(2));
        line("heard", x.heard(0), x.heard(1), x.heard(2), x.heard(3));
        for (int ship = 0; ship < 4; ship++) {
            line("along " + ship, x.along(ship, 0), x.along(ship, 1), x.along(ship, 2), x.along(ship, 3));
        }
    }

    private void flags() {
        for (int ship = 0; ship < SHIPS; ship++) {
            line("hoist " + ship, x.hoist(ship, Kit.row("zzzz")), x.hoist(ship, Kit.row("aab")));
        }
        for (int ship = 0; ship < SHIPS - 1; ship++) {
            line("dim " + ship, x.dim(ship, 0), x.dim(ship, 999));
        }
        line("dim", x.dim(0, 99), x.dim(0, 100), x.dim(0, 199), x.dim(0, 200));
        line("may", x.may(Kit.row("a"), 4, 0, 0), x.may(Kit.row("a"), 5, 0, 0), x.may(Kit.row("a"), 18, 0, 0),
                x.may(Kit.row("b"), 18, 0, 0), x.may(Kit.row("z"), 18, 0, 0));
    }

    private void acts() {
        line("senses", x.senses(), x.letter(0, false, 0), x.letter(0, true, 0), x.letter(1, false, 1));
        line("taken", x.taken(3, 1), x.taken(4, 1), x.taken(5, 1));
        line("send", x.send(0, 0), x.sent(0), x.sent(1), x.sent(2));
        for (int act = 0; act < 8; act++) {
            line("as " + act, x.as(act) ? 1 : 0, x.senses(), x.all(3));
        }
        x.as(-1);
    }

    /** How long it is, and the text on it: with another SENSE behind it, it may be a BOOK or not. */
    private void tape() {
        int[] n = Kit.piece("sense q is .qqqq;", 0);
        line("feed", x.feed(n[0], n[1], n[2], n[3], n[4]));
        line("book", x.book(), x.fault(0), x.fault(1), x.senses(), x.letter(0, false, 0), x.letter(0, true, 0));
    }
}
