/** Promises 17 to 20: a MESSAGE, the HOISTS in which it is sent, and what a HOIST may be. */
public final class MessagesTest {
    public static void main(String[] args) {
        message();
        sendRefused();
        fewestHoists();
        fewestSigns();
        lesserNumber();
        plainAlone();
        lockers();
        whoAndWhen();
        otherBook();
        longMessages();
        may();
        mayOfHoists();
        mayMany();
        Kit.finish();
    }

    private static void due(String call, long got, long want) {
        Kit.due(call, got, want);
    }

    private static void due(String call, boolean got, boolean want) {
        Kit.due(call, got, want);
    }

    private static void yes(String call, boolean got) {
        Kit.due(call, got, true);
    }

    /** send() and all its HOISTS, as texts. */
    private static void sends(SquadronFlags x, String message, int ship, int minute, String... hoists) {
        if (message != null) {
            due("message " + message, Kit.message(x, message), message.trim().split("\\s+").length);
        }
        due("send " + message, x.send(ship, minute), hoists.length);
        for (int k = 0; k < hoists.length; k++) {
            due("sent(" + k + ") of " + message, x.sent(k), Kit.row(hoists[k]));
        }
        due("no more of " + message, x.sent(hoists.length), -1);
    }

    private static void message() {
        SquadronFlags x = new SquadronFlags();
        due("without a BOOK", Kit.message(x, "go"), -1);
        due("the tape went", x.feed(0, 0, 0, 0, 0), 20);
        Kit.book(x, "sense a is .a;sense abcdef is .b;");
        due("7 letters are no NAME", Kit.message(x, "abcdefg"), -1);
        due("no MESSAGE yet", x.all(2), 0);
        Kit.book(x, "sense go is .a;sense abcdef is .b;sense go is .c;");
        due("one", Kit.message(x, "go"), 1);
        due("two", Kit.message(x, "\n abcdef\n\ngo \n"), 2);
        due("all(2)", x.all(2), 2);
        String[] none = {"", " ", "\n", "gone", "go abcdefg", "go!", "go go;", "go 1", "go1", "Go", "g o", "abcde",
                "go\tgo", "go\u00e4", "go go go go go go go go go go go go go", "sense go", "abcdefgo"};
        for (String text : none) {
            due("no MESSAGE: " + text, Kit.message(x, text), -1);
            due("the tape went", x.end(1), false);
            due("the one before stays", x.all(2), 2);
        }
        sends(x, null, 0, 0, "ba");
        due("twelve", Kit.message(x, "go go go go go go go go go go go go"), 12);
        due("all(2)", x.all(2), 12);
    }

    private static void sendRefused() {
        SquadronFlags x = new SquadronFlags();
        due("nothing", x.send(0, 0), -1);
        due("nothing sent", x.sent(0), -1);
        Kit.book(x, "sense go is .a;sense stop is .b for ship = 9;");
        due("no MESSAGE", x.send(0, 0), -1);
        sends(x, "go", 0, 0, "a");
        due("no SHIP", x.send(-1, 0), -1);
        due("no SHIP", x.send(10, 0), -1);
        due("no minute", x.send(0, -1), -1);
        due("no minute", x.send(0, 1000), -1);
        due("the latest that told some", x.sent(0), 1);
        due("no such", x.sent(-1), -1);
        due("no such", x.sent(1), -1);
        due("message", Kit.message(x, "go stop"), 2);
        due("no way", x.send(8, 0), -1);
        due("the latest that told some", x.sent(0), 1);
        due("no such", x.sent(1), -1);
        sends(x, null, 9, 999, "ab");
        due("none above", x.sent(12), -1);
        due("none above", x.sent(Integer.MAX_VALUE), -1);
    }

    private static void fewestHoists() {
        SquadronFlags x = new SquadronFlags();
        Kit.book(x, "sense a is .ab;sense b is .cde;sense c is .f;sense d is .ghij;");
        sends(x, "a", 0, 0, "ab");
        sends(x, "a a", 0, 0, "ab12");
        sends(x, "a b", 0, 0, "ab", "cde");
        sends(x, "b c", 0, 0, "cdef");
        sends(x, "a b c", 0, 0, "ab", "cdef");
        sends(x, "a c b", 0, 0, "ab", "fcde");
        sends(x, "d c d", 0, 0, "ghij", "f", "ghij");
        sends(x, "c c c c", 0, 0, "f123");
        sends(x, "a c c c c c", 0, 0, "abf", "f123");
    }

    private static void fewestSigns() {
        SquadronFlags x = new SquadronFlags();
        Kit.book(x, "sense a is .bcd;sense a is .z;sense b is .y;sense b is .ac;");
        sends(x, "a", 0, 0, "z");
        sends(x, "b", 0, 0, "y");
        sends(x, "a b", 0, 0, "zy");
        due("locker", x.locker(0, 1 << 25, 3), true);
        sends(x, "a b", 0, 0, "bcdy");
        due("locker", x.locker(0, 1 << 25 | 1 << 24, 3), true);
        sends(x, "a b", 0, 0, "bcd", "ac");
        // Fewer HOISTS count ahead of fewer SIGNS.
        Kit.book(x, "sense a is .a;sense b is .bcd;sense b is .c for not all;sense c is .e;sense c is .fgh;sense b is .ae;");
        sends(x, "a b c", 1, 0, "a", "bcde");
    }

    private static void lesserNumber() {
        SquadronFlags x = new SquadronFlags();
        Kit.book(x, "sense a is .d;sense a is .c;sense b is .f;sense b is .e;");
        sends(x, "a", 0, 0, "c");
        sends(x, "a b", 0, 0, "ce");
        sends(x, "b a", 0, 0, "ec");
        due("locker", x.locker(0, 1 << 2, 3), true);
        sends(x, "b a", 0, 0, "ed");
        sends(x, "a a", 0, 0, "d1");
        due("locker", x.locker(0, 1 << 2, 0), true);
        sends(x, "a a", 0, 0, "d", "d");
        // Full: c d is less than c 1, and d c less than d 1.
        due("locker", x.locker(0, 0, 3), true);
        sends(x, "a a", 0, 0, "cd");
        due("no REPEATERS", x.locker(0, 0, 0), true);
        sends(x, "a a a", 0, 0, "c", "cd");
        // One SIGN is less than two: the shorter part goes first.
        Kit.book(x, "sense a is .ab;sense b is .c;sense c is .de;");
        sends(x, "a b c", 1, 0, "ab", "cde");
        Kit.book(x, "sense a is .zab;sense b is .c;sense c is .zd;");
        sends(x, "a b c", 1, 0, "zab", "czd");
    }

    private static void plainAlone() {
        SquadronFlags x = new SquadronFlags();
        Kit.book(x, "sense go is .a;sense stop is .b;sense turn is .ab;");
        sends(x, "go stop", 0, 0, "a", "b");
        sends(x, "stop go", 0, 0, "ba");
        due("turn", Kit.message(x, "turn"), 1);
        due("it is never PLAIN", x.send(0, 0), -1);
        sends(x, "stop go stop", 0, 0, "ba", "b");
        sends(x, "go go stop", 0, 0, "a1", "b");
        // PLAIN by two cuts: like rows are one.
        Kit.book(x, "sense x is .a;sense y is .bc;sense x is .ab;sense y is .c;sense z is .abd;");
        sends(x, "x y", 0, 0, "ac");
        due("locker", x.locker(0, 0, 3), true);
        Kit.book(x, "sense x is .a;sense y is .bc;sense x is .ab for ship = 9;sense y is .c for ship = 9;");
        sends(x, "x y", 0, 0, "abc");
        sends(x, "x y", 9, 0, "ac");
        // Another SENSE of the CODE in force takes it away.
        Kit.book(x, "sense x is .a;sense y is .a for hour = 1;");
        sends(x, "x", 0, 59, "a");
        due("not in hour 1", x.send(0, 60), -1);
        sends(x, null, 0, 120, "a");
        Kit.book(x, "sense x is .a;sense x is .a;");
        sends(x, "x x", 0, 0, "a1");
    }

    private static void lockers() {
        SquadronFlags x = new SquadronFlags();
        Kit.book(x, "sense a is .a;sense b is .b;sense a is .cc;sense b is .bdb;");
        sends(x, "a b a b", 4, 0, "ab12");
        due("locker", x.locker(4, 1, 3), true);
        sends(x, "a b a b", 4, 0, "c1", "bc21");
        sends(x, "b a", 4, 0, "bc2");
        due("locker", x.locker(4, 1, 1), true);
        sends(x, "a b", 4, 0, "c1b");
        // Without the second REPEATER b c c can't be; b and c c can.
        sends(x, "b a", 4, 0, "b", "c1");
        due("locker", x.locker(4, 3, 3), true);
        due("b can't be sent", x.send(4, 0), -1);
    }

    private static void whoAndWhen() {
        SquadronFlags x = new SquadronFlags();
        Kit.book(x, "sense a is .a for haze > 2;sense a is .b for ship = 5;sense a is .c for minute < 10;");
        due("message", Kit.message(x, "a"), 1);
        due("none", x.send(0, 10), -1);
        sends(x, null, 0, 9, "c");
        sends(x, null, 5, 10, "b");
        sends(x, null, 5, 9, "b");
        due("haze", x.haze(100, 3), true);
        sends(x, null, 5, 100, "a");
        due("haze", x.haze(100, 2), true);
        due("none", x.send(4, 100), -1);
    }

    private static void otherBook() {
        SquadronFlags x = new SquadronFlags();
        due("book", Kit.book(x, "sense a is .a;sense b is .b;"), 1);
        due("message", Kit.message(x, "b a"), 2);
        due("book", Kit.book(x, "sense c is .c;sense a is .d;sense b is .e;"), 2);
        sends(x, null, 0, 0, "ed");
        due("book", Kit.book(x, "sense a is .a;"), 3);
        due("b is none now", x.send(0, 0), -1);
        due("line", x.line(1, 0), -1);
        yes("as", x.as(2));
        due("message", Kit.message(x, "a b"), 2);
        yes("as", x.as(3));
        due("the second NAME is none now", x.send(0, 0), -1);
        due("the second NAME is none now", x.line(1, 0), -1);
        yes("as", x.as(2));
        due("message", Kit.message(x, "b a"), 2);
        yes("as", x.as(-1));
        due("the MESSAGE stays", x.all(2), 2);
        due("a NAME of the BOOK as known", Kit.message(x, "b"), -1);
        due("as", x.as(1), true);
        sends(x, null, 0, 0, "ba");
        due("as", x.as(0), true);
        due("no BOOK", x.send(0, 0), -1);
        due("no BOOK", Kit.message(x, "a"), -1);
        due("as", x.as(-1), true);
        due("annul", x.annul(3), 4);
        sends(x, null, 0, 0, "ed");
    }

    private static void longMessages() {
        SquadronFlags x = new SquadronFlags();
        Kit.book(x, "sense a is .a;sense b is .bcde;");
        sends(x, "a a a a a a a a a a a a", 0, 0, "a123", "a123", "a123");
        sends(x, "b b b b b b b b b b b b", 0, 0, "bcde", "bcde", "bcde", "bcde", "bcde", "bcde", "bcde", "bcde",
                "bcde", "bcde", "bcde", "bcde");
        // Ten NAMES in parts of 4 at most: three HOISTS; the lesser HOIST is the shorter one, it goes first.
        sends(x, "a a a a a a a a a a", 0, 0, "a1", "a123", "a123");
        due("locker", x.locker(0, 0, 1), true);
        sends(x, "a a a a a", 0, 0, "a", "a1", "a1");
    }

    private static void may() {
        SquadronFlags x = new SquadronFlags();
        due("without a BOOK", x.may(1, 0, 0, 0), -1);
        Kit.book(x, "sense go is .a;sense stop is .b;sense turn is .ab;sense fire is .c for ship = 2;");
        due("no HOIST", x.may(0, 0, 0, 0), -1);
        due("no HOIST", x.may(Kit.row("aa"), 0, 0, 0), -1);
        due("no HOIST", x.may(Kit.row("a2"), 0, 0, 0), -1);
        due("no DIM", x.may(1, -1, 0, 0), -1);
        due("no DIM", x.may(1, 19, 0, 0), -1);
        due("no SHIP", x.may(1, 0, -1, 0), -1);
        due("no SHIP", x.may(1, 0, 10, 0), -1);
        due("no minute", x.may(1, 0, 0, -1), -1);
        due("no minute", x.may(1, 0, 0, 1000), -1);
        due("READ in two ways", x.may(Kit.row("ab"), 0, 0, 0), 2);
        due("none", x.may(Kit.row("c"), 0, 0, 0), 0);
        due("the SHIP that flies", x.may(Kit.row("c"), 0, 2, 0), 1);
        due("like", x.like(0, 2, 5), true);
        due("from 5 on", x.may(Kit.row("a"), 4, 2, 0), 1);
        due("from 5 on", x.may(Kit.row("a"), 5, 2, 0), 2);
        due("only if its TEST holds", x.may(Kit.row("a"), 5, 1, 0), 1);
        due("a new one by the likeness", x.may(Kit.row("c"), 18, 1, 0), 1);
        due("FLAGS that it lacks too", x.locker(0, 1, 0), true);
        due("FLAGS that it lacks too", x.may(Kit.row("a1"), 0, 0, 0), 1);
    }

    private static void mayOfHoists() {
        SquadronFlags x = new SquadronFlags();
        Kit.book(x, "sense a is .a;sense b is .b;sense c is .c;sense d is .aa;sense e is .ac;");
        due("like", x.like(0, 1, 1), true);
        due("like", x.like(1, 2, 2), true);
        due("a b, b a: none twice", x.may(Kit.row("ab"), 1, 0, 0), 2);
        due("and a c (twice READ)", x.may(Kit.row("ab"), 2, 0, 0), 5);
        due("no likeness", x.may(Kit.row("ab"), 0, 0, 0), 1);
        // a1 may be aa (a a, d) or bb (b b): a REPEATER goes on telling what stands there.
        due("a1", x.may(Kit.row("a1"), 0, 0, 0), 2);
        due("a1", x.may(Kit.row("a1"), 1, 0, 0), 3);
        // b1 may be bb, aa or cc.
        due("b1", x.may(Kit.row("b1"), 2, 0, 0), 4);
        Kit.book(x, "sense y is .y;sense z is .z;");
        due("like", x.like(25, 24, 18), true);
        due("the last FLAG", x.may(Kit.row("z"), 18, 0, 0), 2);
        due("the last FLAG", x.may(Kit.row("z1"), 18, 0, 0), 2);
        due("the last FLAG", x.may(Kit.row("zy1"), 18, 0, 0), 2);
        Kit.book(x, "sense x is .a;sense x is .b;sense y is .c;");
        due("like ones are one", x.may(Kit.row("a"), 1, 0, 0), 1);
        due("like ones are one", x.may(Kit.row("b"), 2, 0, 0), 2);
        due("like ones are one", x.may(Kit.row("ab"), 1, 0, 0), 1);
    }

    private static void mayMany() {
        SquadronFlags x = new SquadronFlags();
        StringBuilder text = new StringBuilder();
        for (char c = 'a'; c <= 'p'; c++) {
            text.append("sense ").append(c).append(" is .").append(c).append(';');
        }
        Kit.book(x, text.toString());
        // a, e, i, m, each LIKE the three behind it.
        for (int flag = 0; flag < 16; flag++) {
            if (flag % 4 != 0) {
                due("like", x.like(flag - flag % 4, flag, 7), true);
            }
        }
        due("4", x.may(Kit.row("a"), 7, 0, 0), 4);
        due("16", x.may(Kit.row("ae"), 7, 0, 0), 16);
        due("64", x.may(Kit.row("aei"), 7, 0, 0), 64);
        due("64", x.may(Kit.row("aei1"), 7, 0, 0), 64);
        due("100 for 256", x.may(Kit.row("aeim"), 7, 0, 0), 100);
        due("one", x.may(Kit.row("aeim"), 6, 0, 0), 1);
        due("a b c d are each LIKE a", x.may(Kit.row("abcd"), 7, 0, 0), 4);
    }
}
