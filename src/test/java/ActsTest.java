/** Promises 24 to 30: ACTS, what is known as of them, THE OTHER SIDE. */
public final class ActsTest {
    public static void main(String[] args) {
        flown();
        annul();
        as();
        known();
        taken();
        takenNames();
        change();
        changeOfSeveral();
        changeOfCuts();
        changeKnown();
        changeOrder();
        full();
        Kit.finish();
    }

    private static void due(String call, long got, long want) {
        Kit.due(call, got, want);
    }

    private static void yes(String call, boolean got) {
        Kit.due(call, got, true);
    }

    private static void no(String call, boolean got) {
        Kit.due(call, got, false);
    }

    private static void all(SquadronFlags x, int acts, int as, int flown) {
        due("all(0)", x.all(0), acts);
        due("all(1)", x.all(1), as);
        due("all(3)", x.all(3), flown);
        due("all(4)", x.all(4), -1);
        due("all(-1)", x.all(-1), -1);
    }

    private static void flown() {
        SquadronFlags x = new SquadronFlags();
        due("no SHIP", x.flown(-1, 0, 1), -1);
        due("no SHIP", x.flown(10, 0, 1), -1);
        due("no minute", x.flown(0, -1, 1), -1);
        due("no minute", x.flown(0, 1000, 1), -1);
        due("no HOIST", x.flown(0, 0, 0), -1);
        due("no HOIST", x.flown(0, 0, Kit.row("aa")), -1);
        due("no HOIST", x.flown(0, 0, Kit.row("a2")), -1);
        all(x, 0, 0, 0);
        due("flown", x.flown(0, 0, 1), 1);
        due("flown", x.flown(9, 999, Kit.row("ab12")), 2);
        yes("lacks all", x.locker(3, 67108863, 0));
        due("whatever its LOCKER lacks now", x.flown(3, 5, Kit.row("a1")), 3);
        all(x, 3, 3, 3);
    }

    private static void annul() {
        SquadronFlags x = new SquadronFlags();
        due("none such", x.annul(1), -1);
        due("none such", x.annul(0), -1);
        due("none such", x.annul(-1), -1);
        due("book", Kit.book(x, "sense a is .a;"), 1);
        due("flown", x.flown(0, 0, 1), 2);
        due("flown", x.flown(0, 0, 1), 3);
        due("none such", x.annul(4), -1);
        due("none such", x.annul(Integer.MAX_VALUE), -1);
        due("annul", x.annul(2), 4);
        all(x, 4, 4, 1);
        due("VOID", x.annul(2), -1);
        due("it tells so", x.annul(4), -1);
        due("THE BOOK", x.annul(1), 5);
        due("no BOOK", x.senses(), -1);
        all(x, 5, 5, 1);
        yes("as", x.as(3));
        due("VOID by now", x.annul(2), -1);
        due("of all ACTS", x.annul(3), 6);
        all(x, 6, 3, 2);
        yes("as", x.as(-1));
        all(x, 6, 6, 0);
    }

    private static void as() {
        SquadronFlags x = new SquadronFlags();
        no("none such", x.as(1));
        no("none such", x.as(-2));
        yes("none", x.as(0));
        due("book", Kit.book(x, "sense a is .a;"), 1);
        all(x, 1, 0, 0);
        due("not known", x.senses(), -1);
        yes("always the last", x.as(-1));
        due("known", x.senses(), 1);
        due("book", Kit.book(x, "sense a is .a;sense b is .b;"), 2);
        all(x, 2, 2, 0);
        due("the last", x.senses(), 2);
        yes("the first", x.as(1));
        all(x, 2, 1, 0);
        due("the first", x.senses(), 1);
        no("none such", x.as(3));
        all(x, 2, 1, 0);
        due("book", Kit.book(x, ""), 3);
        due("still the first", x.senses(), 1);
        yes("none", x.as(0));
        due("none", x.senses(), -1);
        due("none", x.letter(0, false, 0), -1);
        due("none", x.holds(0, 0, 0), -1);
        due("none", x.read(1, 0, 0), -1);
        due("none", x.may(1, 0, 0, 0), -1);
        yes("the third", x.as(3));
        due("the third", x.senses(), 0);
        yes("the second", x.as(2));
        due("the second", x.senses(), 2);
    }

    private static void known() {
        SquadronFlags x = new SquadronFlags();
        due("book", Kit.book(x, "sense a is .a;"), 1);
        due("book", Kit.book(x, "sense a is .a;sense b is .b;"), 2);
        due("flown", x.flown(0, 0, 1), 3);
        due("annul", x.annul(2), 4);
        due("the one before", x.senses(), 1);
        due("annul", x.annul(1), 5);
        due("none", x.senses(), -1);
        yes("as", x.as(4));
        due("the one before", x.senses(), 1);
        yes("as", x.as(3));
        due("not VOID yet", x.senses(), 2);
        all(x, 5, 3, 1);
        yes("as", x.as(2));
        all(x, 5, 2, 0);
        yes("as", x.as(-1));
        due("book", Kit.book(x, "sense a is .a;sense b is .b;sense c is .c;"), 6);
        due("the new one", x.senses(), 3);
        due("annul", x.annul(3), 7);
        all(x, 7, 7, 0);
        yes("as", x.as(6));
        all(x, 7, 6, 1);
    }

    private static void taken() {
        SquadronFlags x = new SquadronFlags();
        due("flown", x.flown(0, 0, Kit.row("a")), 1);
        due("no BOOK", x.taken(1, 0), 0);
        due("no BOOK of his, none of ours", x.taken(1, 1), 0);
        due("ours", Kit.book(x, "sense go is .a;sense stop is .b;sense turn is .c for ship = 1 and minute > 9;"), 2);
        due("ours alone", x.taken(1, 0), 0);
        due("ours alone", x.taken(1, 1), 0);
        due("the same", x.taken(1, 2), 2);
        due("next", Kit.book(x, "sense stop is .a;sense go is .b;sense turn is .c;sense go is .dd;sense turn is .dd;"), 3);
        due("he has the one before", x.taken(1, 2), 1);
        due("he has ours", x.taken(1, 3), 2);
        due("no such ACT", x.taken(1, 4), -1);
        due("no such ACT", x.taken(1, -1), -1);
        due("no FLOWN", x.taken(2, 2), -1);
        due("none such", x.taken(0, 2), -1);
        due("none such", x.taken(-1, 2), -1);
        due("none such", x.taken(4, 2), -1);
        due("flown", x.flown(1, 10, Kit.row("c")), 4);
        due("flown", x.flown(1, 9, Kit.row("c")), 5);
        due("flown", x.flown(2, 10, Kit.row("c")), 6);
        due("flown", x.flown(0, 0, Kit.row("d1")), 7);
        due("as SHIP and minute were", x.taken(4, 2), 2);
        due("as the minute was", x.taken(5, 2), 0);
        due("as the SHIP was", x.taken(6, 2), 0);
        due("PLAIN for neither", x.taken(7, 2), 0);
        due("not PLAIN for both", x.taken(7, 3), 0);
        due("annul", x.annul(3), 8);
        due("ours is the one before", x.taken(1, 2), 2);
        due("his as it was known", x.taken(1, 3), 1);
        due("his without it, as known now", x.taken(1, 8), 2);
        yes("as", x.as(3));
        due("known", x.taken(1, 2), 1);
        due("a later ACT of his", x.taken(1, 8), 1);
        due("not known", x.taken(4, 2), -1);
        yes("as", x.as(0));
        due("not known", x.taken(1, 2), -1);
        yes("as", x.as(1));
        due("we have none", x.taken(1, 2), 0);
        yes("as", x.as(-1));
        due("annul", x.annul(1), 9);
        due("VOID", x.taken(1, 2), -1);
        yes("as", x.as(8));
        due("not VOID by then", x.taken(1, 2), 2);
    }

    private static void takenNames() {
        SquadronFlags x = new SquadronFlags();
        due("his", Kit.book(x, "sense b is .b;sense a is .a;sense c is .ab;sense d is .cd;sense e is .e;sense a is .f;"), 1);
        due("ours", Kit.book(x, "sense a is .a;sense b is .b;sense d is .c;sense e is .de;sense d is .e;sense a is .f;"), 2);
        due("flown", x.flown(0, 0, Kit.row("ba")), 3);
        due("the same NAMES, other SENSES", x.taken(3, 1), 2);
        due("flown", x.flown(0, 0, Kit.row("ab")), 4);
        due("not PLAIN for him", x.taken(4, 1), 0);
        due("flown", x.flown(0, 0, Kit.row("cde")), 5);
        due("the same NAMES by other CODES", x.taken(5, 1), 2);
        due("flown", x.flown(0, 0, Kit.row("e")), 6);
        due("another NAME", x.taken(6, 1), 1);
        due("flown", x.flown(0, 0, Kit.row("f1")), 7);
        due("twice the NAME", x.taken(7, 1), 2);
        due("longer for him", Kit.book(x, "sense a is .ff;sense d is .e;"), 8);
        yes("as", x.as(7));
        due("one NAME, two NAMES", x.taken(7, 8), 1);
        due("haze", x.taken(6, 8), 2);
        for (int other = 0; other < 4; other++) {
            // One NAME of four is another one for him, or the same.
            otherPart("abcd".charAt(other), "q", 1);
            otherPart("abcd".charAt(other), "abcd".substring(other, other + 1), 2);
        }
        x = new SquadronFlags();
        due("his", Kit.book(x, "sense b is .ab;sense c is .c;sense d is .d;"), 1);
        due("ours", Kit.book(x, "sense a is .a;sense b is .b;sense c is .c;sense d is .d;"), 2);
        due("flown", x.flown(0, 0, Kit.row("abcd")), 3);
        due("b c d for a b c d", x.taken(3, 1), 1);
        due("annul", x.annul(2), 4);
        due("a b c d for b c d", x.taken(3, 2), 1);
    }

    /** What a b c d is for him, if the SENSE with this CODE has this NAME in his BOOK. */
    private static void otherPart(char code, String name, int taken) {
        SquadronFlags x = new SquadronFlags();
        String ours = "sense a is .a;sense b is .b;sense c is .c;sense d is .d;";
        due("his", Kit.book(x, ours.replace("sense " + code, "sense " + name)), 1);
        due("ours", Kit.book(x, ours), 2);
        due("flown", x.flown(0, 0, Kit.row("abcd")), 3);
        due("another for " + code, x.taken(3, 1), taken);
        due("flown", x.flown(0, 0, Kit.row("abcd".substring(1))), 4);
        due("another for " + code + " in b c d", x.taken(4, 1), code == 'a' ? 2 : taken);
    }

    private static final String SIX = "sense go is .a;sense stop is .b;sense turn is .c;sense fire is .d;sense wait is .e;"
            + "sense go is .a;sense home is .f;";

    private static void changes(SquadronFlags x, int book, int... senses) {
        due("change(" + book + ")", x.change(book), senses.length);
        for (int k = 0; k < senses.length; k++) {
            due("changed(" + k + ")", x.changed(k), senses[k]);
        }
        due("changed no more", x.changed(senses.length), -1);
        due("changed(-1)", x.changed(-1), -1);
        due("changed far above", x.changed(Integer.MAX_VALUE), -1);
    }

    private static void change() {
        SquadronFlags x = new SquadronFlags();
        changes(x, 0);
        due("no such ACT", x.change(1), -1);
        due("no such ACT", x.change(-1), -1);
        due("book", Kit.book(x, SIX), 1);
        changes(x, 1);
        due("flown", x.flown(0, 0, Kit.row("b")), 2);
        changes(x, 1, 1);
        changes(x, 0);
        changes(x, 2, 1);
        due("flown", x.flown(0, 0, Kit.row("c")), 3);
        changes(x, 1, 1, 2);
        due("flown", x.flown(3, 7, Kit.row("c1")), 4);
        changes(x, 1, 1, 2);
        due("flown", x.flown(0, 0, Kit.row("d")), 5);
        changes(x, 1, 1, 2, 3);
        due("flown", x.flown(0, 0, Kit.row("f")), 6);
        changes(x, 1, 1, 2, 3, 6);
        due("flown", x.flown(0, 0, Kit.row("e")), 7);
        due("4 are not enough", x.change(1), -1);
        due("no such ACT", x.change(8), -1);
        for (int k = 0; k < 4; k++) {
            due("the latest that wasn't NONE", x.changed(k), new int[] {1, 2, 3, 6}[k]);
        }
        due("annul", x.annul(2), 8);
        changes(x, 1, 2, 3, 4, 6);
    }

    private static void changeOfSeveral() {
        SquadronFlags x = new SquadronFlags();
        due("book", Kit.book(x, SIX), 1);
        due("flown", x.flown(0, 0, Kit.row("a")), 2);
        changes(x, 1, 0, 5);
        due("flown", x.flown(0, 0, Kit.row("ab")), 3);
        changes(x, 1, 0, 5);
        due("annul", x.annul(2), 4);
        changes(x, 1, 1);
        due("flown", x.flown(0, 0, Kit.row("cd")), 5);
        changes(x, 1, 1, 2);
        due("flown", x.flown(0, 0, Kit.row("def")), 6);
        changes(x, 1, 1, 3);
        due("flown", x.flown(0, 0, Kit.row("fb")), 7);
        changes(x, 1, 1, 3);
        due("flown", x.flown(0, 0, Kit.row("a1")), 8);
        changes(x, 1, 0, 1, 3, 5);
        due("other TESTS", Kit.book(x, "sense go is .a for ship = 1;sense go is .a;sense stop is .b;"), 9);
        due("he READS a, and ab by b", x.change(9), 1);
        due("a alone", x.changed(0), 1);
        due("flown", x.flown(1, 0, Kit.row("a")), 10);
        changes(x, 9, 0, 1);
    }

    private static void changeOfCuts() {
        SquadronFlags x = new SquadronFlags();
        due("book", Kit.book(x, "sense z is .z;sense x is .a;sense y is .bc;sense x is .ab;sense y is .c;"), 1);
        due("flown", x.flown(0, 0, Kit.row("abc")), 2);
        due("PLAIN", x.taken(2, 1), 2);
        changes(x, 1, 1, 3);
        due("flown", x.flown(0, 0, Kit.row("zc")), 3);
        changes(x, 1, 1, 4);
        due("flown", x.flown(0, 0, Kit.row("z")), 4);
        changes(x, 1, 0, 1, 3);
        due("he has another BOOK", Kit.book(x, "sense x is .a;sense y is .bc;sense z is .z;"), 5);
        changes(x, 5, 0, 2);
        yes("as", x.as(4));
        changes(x, 5, 0, 1, 3);
    }

    private static void changeKnown() {
        SquadronFlags x = new SquadronFlags();
        due("flown first", x.flown(0, 0, 2), 1);
        due("book", Kit.book(x, "sense a is .a;sense b is .b;"), 2);
        changes(x, 2, 1);
        x = new SquadronFlags();
        due("book", Kit.book(x, "sense a is .a;sense b is .b;sense c is .c;"), 1);
        due("flown", x.flown(0, 0, 1), 2);
        due("flown", x.flown(0, 0, 2), 3);
        due("book", Kit.book(x, "sense b is .b;sense c is .a;sense a is .d;"), 4);
        changes(x, 1, 0);
        changes(x, 4, 0, 1);
        yes("as", x.as(3));
        changes(x, 1, 0, 1);
        changes(x, 4, 1);
        yes("as", x.as(2));
        changes(x, 1, 0);
        yes("as", x.as(0));
        changes(x, 1);
        yes("as", x.as(-1));
        due("annul", x.annul(4), 5);
        changes(x, 5, 0, 1);
        changes(x, 4, 1);
        due("annul", x.annul(1), 6);
        changes(x, 1);
    }

    private static void changeOrder() {
        SquadronFlags x = new SquadronFlags();
        due("book", Kit.book(x, "sense a is .a;sense b is .b;sense c is .c;sense d is .d;sense e is .e;sense f is .f;"), 1);
        due("flown", x.flown(0, 0, Kit.row("af")), 2);
        due("flown", x.flown(0, 0, Kit.row("bf")), 3);
        due("flown", x.flown(0, 0, Kit.row("cf")), 4);
        changes(x, 1, 5);
        due("flown", x.flown(0, 0, Kit.row("ed")), 5);
        changes(x, 1, 3, 5);
        due("flown", x.flown(0, 0, Kit.row("ec")), 6);
        // With f: 2 3, or 4, each do for the last two.
        changes(x, 1, 4, 5);
        due("flown", x.flown(0, 0, Kit.row("abd")), 7);
        // One more of a, b, d; 0 4 5 is the first row.
        changes(x, 1, 0, 4, 5);
        due("flown", x.flown(0, 0, Kit.row("d")), 8);
        changes(x, 1, 2, 3, 5);
    }

    private static void full() {
        SquadronFlags x = new SquadronFlags();
        due("book", Kit.book(x, "sense a is .a;sense a is .b;"), 1);
        for (int act = 2; act <= 199; act++) {
            due("flown", x.flown(act % 10, act, 1 + act % 2), act);
        }
        due("the 200th", x.annul(2), 200);
        due("none above 200", x.annul(3), -1);
        due("no more", x.flown(0, 0, 1), -1);
        all(x, 200, 200, 197);
        changes(x, 200, 0, 1);
        yes("as", x.as(200));
        no("none such", x.as(201));
        yes("as", x.as(199));
        all(x, 200, 199, 198);
        due("taken", x.taken(199, 200), 2);
        x = new SquadronFlags();
        due("book", Kit.book(x, "sense a is .a for ship=7 and minute=900;"), 1);
        for (int act = 2; act <= 200; act++) {
            due("flown", x.flown(act == 200 ? 7 : 6, 900, 1), act);
        }
        due("none above 200", x.flown(7, 900, 1), -1);
        due("none above 200", x.annul(200), -1);
        due("the 200th", x.taken(200, 200), 2);
        due("the 199th", x.taken(199, 200), 0);
        changes(x, 1, 0);
        all(x, 200, 200, 199);
        x = new SquadronFlags();
        due("three cuts", Kit.book(x, "sense x is .a;sense x is .ab;sense x is .abc;sense y is .bcd;sense y is .cd;"
                + "sense y is .d;sense z is .z;"), 1);
        for (int act = 2; act <= 199; act++) {
            due("flown", x.flown(0, 0, Kit.row("abcd")), act);
        }
        changes(x, 1, 0, 1, 2);
        due("flown", x.flown(0, 0, Kit.row("z")), 200);
        changes(x, 1, 0, 1, 2, 6);
    }
}
