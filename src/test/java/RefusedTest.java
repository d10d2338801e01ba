import java.util.List;

/** Of each call that changes something: where it is refused, it did nothing; and what only tells, changes nothing. */
public final class RefusedTest {
    private static final int NONE = SquadronFlags.NONE;

    private interface Call {
        int on(SquadronFlags x);
    }

    public static void main(String[] args) {
        tape();
        flags();
        books();
        messages();
        line();
        acts();
        twoHundred();
        tellingAlone();
        Kit.finish();
    }

    private static int bit(boolean is) {
        return is ? 1 : 0;
    }

    /** An object with something of everything; its tape holds one STATEMENT of 20 bytes. */
    private static SquadronFlags busy() {
        SquadronFlags x = new SquadronFlags();
        Kit.book(x, "sense go is .a;sense stop is .b;sense turn is .c;sense go is .zz;");
        Kit.book(x, "sense go is .a;sense stop is .b;sense turn is .d;sense halt is .z;");
        x.locker(2, 1 << 25, 1);
        x.locker(9, 67108863, 0);
        x.like(0, 1, 5);
        x.like(0, 2, 6);
        x.like(0, 3, 7);
        x.haze(100, 4);
        x.haze(200, 9);
        x.far(0, 3);
        x.far(8, 9);
        Kit.message(x, "go stop go");
        x.send(0, 0);
        x.line(3, 10);
        x.flown(0, 5, Kit.row("a"));
        x.flown(1, 5, Kit.row("b"));
        x.flown(2, 6, Kit.row("ab1"));
        x.annul(4);
        x.change(1);
        Kit.book(x, "sense go is a;");
        Kit.tape(x, "sense new is .abcd; ");
        return x;
    }

    private static void same(String name, List<String> got, List<String> want) {
        Kit.due(name + ": as many lines", got.size(), want.size());
        for (int i = 0; i < got.size() && i < want.size(); i++) {
            Kit.due(name + " changed {" + want.get(i) + "} to {" + got.get(i) + "}", got.get(i).equals(want.get(i)), true);
        }
    }

    /** A call that is to answer so, and to change nothing. */
    private static void idle(String name, int answer, Call call) {
        SquadronFlags x = busy();
        Kit.due(name, call.on(x), answer);
        same(name, State.of(x, true, true), State.of(busy(), true, true));
    }

    private static void tape() {
        idle("end(-1)", 0, x -> bit(x.end(-1)));
        idle("end(21)", 0, x -> bit(x.end(21)));
        idle("end(MAX)", 0, x -> bit(x.end(Integer.MAX_VALUE)));
        idle("end(MIN)", 0, x -> bit(x.end(Integer.MIN_VALUE)));
        idle("all 20", 1, x -> bit(x.end(20)));
        SquadronFlags one = full("sense b is .c;");
        SquadronFlags two = full("sense b is .c;");
        Kit.due("feed beyond 700", two.feed(0x3B3B3B3B, 0, 0, 0, 0), NONE);
        Kit.due("still 700", two.end(701), false);
        Kit.due("and no less", two.end(700), true);
        same("feed beyond 700", State.of(two, true, true), State.of(one, true, true));
    }

    /** A tape of 700 bytes, blanks but for this at its start. */
    private static SquadronFlags full(String start) {
        SquadronFlags x = new SquadronFlags();
        StringBuilder text = new StringBuilder(start);
        while (text.length() < 700) {
            text.append(' ');
        }
        Kit.tape(x, text.toString());
        return x;
    }

    private static void flags() {
        idle("locker of -1", 0, x -> bit(x.locker(-1, 1, 1)));
        idle("locker of 10", 0, x -> bit(x.locker(10, 1, 1)));
        idle("lacks -1", 0, x -> bit(x.locker(2, -1, 2)));
        idle("lacks 2 to the 26", 0, x -> bit(x.locker(2, 67108864, 2)));
        idle("-1 REPEATERS", 0, x -> bit(x.locker(2, 0, -1)));
        idle("4 REPEATERS", 0, x -> bit(x.locker(2, 0, 4)));
        idle("like itself", 0, x -> bit(x.like(1, 1, 4)));
        idle("like of -1", 0, x -> bit(x.like(-1, 1, 4)));
        idle("like of 26", 0, x -> bit(x.like(26, 1, 4)));
        idle("like to -1", 0, x -> bit(x.like(1, -1, 4)));
        idle("like to 26", 0, x -> bit(x.like(1, 26, 4)));
        idle("like from -1", 0, x -> bit(x.like(0, 1, -1)));
        idle("like from 19", 0, x -> bit(x.like(0, 1, 19)));
        idle("a fourth of the first", 0, x -> bit(x.like(0, 25, 4)));
        idle("a fourth of the second", 0, x -> bit(x.like(25, 0, 4)));
        idle("a fourth that never is", 1, x -> bit(x.like(25, 0, 0)));
        idle("haze at -1", 0, x -> bit(x.haze(-1, 1)));
        idle("haze at 1000", 0, x -> bit(x.haze(1000, 1)));
        idle("haze -1", 0, x -> bit(x.haze(100, -1)));
        idle("haze 10", 0, x -> bit(x.haze(100, 10)));
        idle("far of -1", 0, x -> bit(x.far(-1, 1)));
        idle("far of 9", 0, x -> bit(x.far(9, 1)));
        idle("far -1", 0, x -> bit(x.far(0, -1)));
        idle("far 10", 0, x -> bit(x.far(0, 10)));
    }

    private static void books() {
        SquadronFlags one = busy();
        SquadronFlags two = busy();
        Kit.due("book with a FAULT", Kit.book(two, "sense zz is .zz; sense"), NONE);
        Kit.due("its FAULT", two.fault(0), 1);
        Kit.due("its place", two.fault(1), 22);
        Kit.due("the tape went", two.end(1), false);
        same("book with a FAULT", State.of(two, false, false), State.of(one, false, false));
        idle("fault(2)", NONE, x -> x.fault(2));
        idle("fault(-1)", NONE, x -> x.fault(-1));
        idle("senses()", 4, x -> x.senses());
        idle("letter(4)", NONE, x -> x.letter(4, true, 0));
        idle("letter 6", NONE, x -> x.letter(0, false, 6));
        idle("holds(4)", NONE, x -> x.holds(4, 0, 0));
        idle("read(0)", NONE, x -> x.read(0, 0, 0));
        idle("read(aa)", 1, x -> x.read(Kit.row("aa"), 0, 0));
    }

    private static void messages() {
        for (String text : new String[] {"", "stop 1", "stop nix", "go go go go go go go go go go go go go"}) {
            SquadronFlags one = busy();
            SquadronFlags two = busy();
            Kit.due("message " + text, Kit.message(two, text), NONE);
            Kit.due("the tape went", two.end(1), false);
            same("message " + text, State.of(two, false, true), State.of(one, false, true));
        }
        idle("send as -1", NONE, x -> x.send(-1, 0));
        idle("send as 10", NONE, x -> x.send(10, 0));
        idle("send at -1", NONE, x -> x.send(0, -1));
        idle("send at 1000", NONE, x -> x.send(0, 1000));
        idle("send without FLAGS", NONE, x -> x.send(9, 0));
        idle("sent(-1)", NONE, x -> x.sent(-1));
        idle("sent(99)", NONE, x -> x.sent(99));
        idle("may of none", NONE, x -> x.may(0, 0, 0, 0));
        idle("may at DIM 19", NONE, x -> x.may(1, 19, 0, 0));
        idle("may", 3, x -> x.may(1, 18, 0, 0));
        SquadronFlags one = otherNames();
        SquadronFlags two = otherNames();
        Kit.due("send NAMES that are none", two.send(0, 0), NONE);
        Kit.due("line with NAMES that are none", two.line(3, 10), NONE);
        same("NAMES that are none", State.of(two, true, true), State.of(one, true, true));
    }

    private static SquadronFlags otherNames() {
        SquadronFlags x = busy();
        Kit.book(x, "sense go is .a;");
        return x;
    }

    private static void line() {
        idle("line to 0", NONE, x -> x.line(0, 10));
        idle("line to 10", NONE, x -> x.line(10, 10));
        idle("line at -1", NONE, x -> x.line(3, -1));
        idle("line at 701", NONE, x -> x.line(3, 701));
        idle("line of what can't be sent", NONE, x -> {
            x.locker(0, 1, 3);
            int answer = x.line(3, 10);
            x.locker(0, 0, 3);
            return answer;
        });
        idle("along(4)", NONE, x -> x.along(4, 0));
        idle("along what 4", NONE, x -> x.along(0, 4));
        idle("heard(3)", NONE, x -> x.heard(3));
        // send() leaves what line() told, line() what send() told.
        SquadronFlags x = busy();
        Kit.due("sent", x.sent(0), Kit.row("ab1"));
        Kit.due("heard", x.heard(2), 0);
        x.locker(3, 0, 0);
        Kit.due("send", x.send(3, 300), 2);
        Kit.due("heard", x.heard(2), 0);
        Kit.due("along", x.along(3, 0), 3);
        Kit.due("line", x.line(1, 10), 3);
        Kit.due("along", x.along(0, 2), 1);
        Kit.due("sent", x.sent(1), Kit.row("ba"));
        Kit.due("sent", x.sent(2), NONE);
    }

    private static void acts() {
        idle("flown by -1", NONE, x -> x.flown(-1, 0, 1));
        idle("flown by 10", NONE, x -> x.flown(10, 0, 1));
        idle("flown at -1", NONE, x -> x.flown(0, -1, 1));
        idle("flown at 1000", NONE, x -> x.flown(0, 1000, 1));
        idle("flown none", NONE, x -> x.flown(0, 0, Kit.row("aa")));
        idle("annul(-1)", NONE, x -> x.annul(-1));
        idle("annul(0)", NONE, x -> x.annul(0));
        idle("annul beyond", NONE, x -> x.annul(7));
        idle("annul what is VOID", NONE, x -> x.annul(4));
        idle("annul what tells so", NONE, x -> x.annul(6));
        idle("as(-2)", 0, x -> bit(x.as(-2)));
        idle("as beyond", 0, x -> bit(x.as(7)));
        idle("as beyond, as known at 3", 0, x -> {
            x.as(3);
            int answer = bit(x.as(7));
            Kit.due("as before", x.all(1), 3);
            x.as(-1);
            return answer;
        });
        idle("taken of a BOOK", NONE, x -> x.taken(1, 1));
        idle("taken beyond", NONE, x -> x.taken(3, 7));
        idle("taken", 2, x -> x.taken(3, 1));
        idle("change(-1)", NONE, x -> x.change(-1));
        idle("change beyond", NONE, x -> x.change(7));
        idle("changed(9)", NONE, x -> x.changed(9));
        idle("all(4)", NONE, x -> x.all(4));
        SquadronFlags one = fiveNeeded();
        SquadronFlags two = fiveNeeded();
        Kit.due("4 are not enough", two.change(1), NONE);
        same("4 are not enough", State.of(two, true, true), State.of(one, true, true));
    }

    /** What change() told last is of 4, and now it takes 5. */
    private static SquadronFlags fiveNeeded() {
        SquadronFlags x = new SquadronFlags();
        Kit.book(x, "sense a is .a;sense b is .b;sense c is .c;sense d is .d;sense e is .e;");
        for (int flag = 1; flag <= 4; flag++) {
            x.flown(0, 0, flag);
        }
        Kit.due("4 are enough", x.change(1), 4);
        x.flown(0, 0, 5);
        return x;
    }

    private static SquadronFlags withTwoHundred() {
        SquadronFlags x = busy();
        for (int act = 7; act <= 200; act++) {
            x.flown(act % 10, act, Kit.row("d"));
        }
        return x;
    }

    private static void twoHundred() {
        List<String> want = State.of(withTwoHundred(), true, true);
        SquadronFlags x = withTwoHundred();
        Kit.due("a 201st FLOWN", x.flown(0, 5, 1), NONE);
        same("a 201st FLOWN", State.of(x, true, true), want);
        x = withTwoHundred();
        Kit.due("a 201st VOID", x.annul(3), NONE);
        same("a 201st VOID", State.of(x, true, true), want);
        x = withTwoHundred();
        Kit.due("a 201st BOOK", x.book(), -2);
        same("a 201st BOOK", State.of(x, false, true), State.of(withTwoHundred(), false, true));
    }

    private static void tellingAlone() {
        idle("dim", 3, x -> x.dim(0, 0));
        idle("dim of 9", NONE, x -> x.dim(9, 0));
        idle("hoist", 1, x -> x.hoist(0, 1));
        idle("hoist of none", NONE, x -> x.hoist(0, 0));
        idle("tells", 1, x -> x.tells(1));
        idle("tells of none", NONE, x -> x.tells(0));
    }
}
