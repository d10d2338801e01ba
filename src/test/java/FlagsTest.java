/** Promises 1 to 10: a new object, the tape, LOCKERS, what is LIKE what, DIM, HOISTS. */
public final class FlagsTest {
    public static void main(String[] args) {
        newObject();
        feed();
        end();
        locker();
        like();
        hazeFarDim();
        hoist();
        tells();
        Kit.finish();
    }

    private static void due(String call, long got, long want) {
        Kit.due(call, got, want);
    }

    private static void yes(String call, boolean got) {
        Kit.due(call, got, true);
    }

    private static void no(String call, boolean got) {
        Kit.due(call, got, false);
    }

    private static void newObject() {
        SquadronFlags x = new SquadronFlags();
        due("NONE", SquadronFlags.NONE, -1);
        for (int what = 0; what < 4; what++) {
            due("new all(" + what + ")", x.all(what), 0);
        }
        due("new senses", x.senses(), -1);
        due("new fault(0)", x.fault(0), 0);
        due("new fault(1)", x.fault(1), -1);
        no("nothing on the tape", x.end(1));
        yes("nothing on the tape", x.end(0));
        for (int ship = 0; ship < 10; ship++) {
            due("all LOCKERS full", x.hoist(ship, Kit.row("zzzz")), Kit.row("z123"));
            due("all LOCKERS full", x.hoist(ship, Kit.row("mabc")), Kit.row("mabc"));
        }
        for (int ship = 0; ship < 9; ship++) {
            due("no HAZE, not FAR", x.dim(ship, 0), 0);
            due("no HAZE, not FAR", x.dim(ship, 999), 0);
        }
        StringBuilder text = new StringBuilder();
        for (char c = 'a'; c <= 'z'; c++) {
            text.append("sense ").append(c).append(" is .").append(c).append(';');
        }
        due("book", Kit.book(x, text.toString()), 1);
        for (int flag = 1; flag <= 26; flag++) {
            due("no FLAGS LIKE others", x.may(flag, 18, 0, 0), 1);
        }
    }

    private static void feed() {
        SquadronFlags x = new SquadronFlags();
        for (int n = 20; n <= 700; n += 20) {
            due("feed", x.feed(0, 0, 0, 0, 0), n);
        }
        due("no more than 700", x.feed(0, 0, 0, 0, 0), -1);
        yes("all 700 are still there", x.end(700));
        yes("end", x.end(681));
        due("701 would be more", x.feed(0, 0, 0, 0, 0), -1);
        yes("end", x.end(680));
        due("700 are not more", x.feed(0, 0, 0, 0, 0), 700);
        // The highest byte of each number comes first, the numbers in their order: "sense b is .cde ;".
        x.end(0);
        due("feed", x.feed(0x73656E73, 0x65206220, 0x6973202E, 0x63646520, 0x3B0A0A0A), 20);
        due("book", x.book(), 1);
        due("name", x.letter(0, false, 0), 2);
        due("code", x.letter(0, true, 0), 3);
        due("code", x.letter(0, true, 1), 4);
        due("code", x.letter(0, true, 2), 5);
        // A byte above 127 is one byte that no BOOK has.
        due("feed", x.feed(0xE1000000, 0, 0, 0, 0), 20);
        due("book", x.book(), -1);
        due("at its place", x.fault(1), 0);
        due("the tape went", x.feed(1, 2, 3, 4, 5), 20);
    }

    private static void end() {
        SquadronFlags x = new SquadronFlags();
        Kit.tape(x, "sense a is .b; sense b is .c;");
        no("below 0", x.end(-1));
        no("not so many", x.end(30));
        no("not so many", x.end(Integer.MAX_VALUE));
        yes("all", x.end(29));
        yes("the first 14", x.end(14));
        no("they are gone", x.end(15));
        due("book", x.book(), 1);
        due("the first bytes alone", x.senses(), 1);
        Kit.tape(x, "sense a is .b; sense b is .c;");
        no("nothing done", x.end(-1));
        no("nothing done", x.end(99));
        due("book", x.book(), 2);
        due("both", x.senses(), 2);
    }

    private static void locker() {
        SquadronFlags x = new SquadronFlags();
        no("no such SHIP", x.locker(-1, 0, 3));
        no("no such SHIP", x.locker(10, 0, 3));
        no("lacks too low", x.locker(3, -1, 3));
        no("lacks too high", x.locker(3, 67108864, 3));
        no("too few REPEATERS", x.locker(3, 0, -1));
        no("too many REPEATERS", x.locker(3, 0, 4));
        due("nothing done", x.hoist(3, Kit.row("aaaa")), Kit.row("a123"));
        yes("lacks b and z", x.locker(3, 2 | 1 << 25, 1));
        due("a", x.hoist(3, Kit.row("a")), Kit.row("a"));
        due("b", x.hoist(3, Kit.row("b")), -1);
        due("z", x.hoist(3, Kit.row("z")), -1);
        due("y", x.hoist(3, Kit.row("y")), Kit.row("y"));
        due("one REPEATER", x.hoist(3, Kit.row("aa")), Kit.row("a1"));
        due("no second one", x.hoist(3, Kit.row("aaa")), -1);
        due("another SHIP", x.hoist(2, Kit.row("bzbz")), Kit.row("bz12"));
        yes("lacks all", x.locker(9, 67108863, 3));
        due("lacks all", x.hoist(9, Kit.row("q")), -1);
        yes("full again", x.locker(9, 0, 0));
        due("full again", x.hoist(9, Kit.row("q")), Kit.row("q"));
        due("no REPEATER", x.hoist(9, Kit.row("qq")), -1);
        yes("anew", x.locker(3, 1, 2));
        due("what was told last", x.hoist(3, Kit.row("b")), Kit.row("b"));
        due("what was told last", x.hoist(3, Kit.row("a")), -1);
    }

    private static void like() {
        SquadronFlags x = new SquadronFlags();
        due("book", Kit.book(x, "sense a is .a;sense b is .b;sense c is .c;sense d is .d;sense e is .e;sense z is .z;"), 1);
        no("the same FLAG", x.like(1, 1, 5));
        no("no FLAG", x.like(-1, 1, 5));
        no("no FLAG", x.like(1, -1, 5));
        no("no FLAG", x.like(26, 1, 5));
        no("no FLAG", x.like(1, 26, 5));
        no("DIM too low", x.like(0, 1, -1));
        no("DIM too high", x.like(0, 1, 19));
        due("nothing done", x.may(Kit.row("a"), 18, 0, 0), 1);
        yes("never LIKE", x.like(0, 1, 0));
        yes("from 5 on", x.like(0, 1, 5));
        due("not yet", x.may(Kit.row("a"), 4, 0, 0), 1);
        due("from 5 on", x.may(Kit.row("a"), 5, 0, 0), 2);
        due("both ways", x.may(Kit.row("b"), 5, 0, 0), 2);
        yes("as told last", x.like(1, 0, 18));
        due("as told last", x.may(Kit.row("a"), 17, 0, 0), 1);
        due("as told last", x.may(Kit.row("a"), 18, 0, 0), 2);
        yes("the second", x.like(0, 2, 1));
        yes("the third", x.like(25, 0, 1));
        no("a fourth", x.like(0, 3, 1));
        no("a fourth", x.like(3, 0, 1));
        due("it wasn't done", x.may(Kit.row("d"), 18, 0, 0), 1);
        yes("one of the three anew", x.like(0, 25, 2));
        due("anew", x.may(Kit.row("a"), 18, 0, 0), 4);
        due("anew", x.may(Kit.row("a"), 1, 0, 0), 2);
        yes("never one more", x.like(0, 3, 0));
        yes("one less", x.like(0, 2, 0));
        due("one less", x.may(Kit.row("a"), 18, 0, 0), 3);
        yes("room again", x.like(0, 4, 1));
        no("none left", x.like(0, 2, 1));
        due("not by way of another", x.may(Kit.row("e"), 18, 0, 0), 2);
    }

    private static void hazeFarDim() {
        SquadronFlags x = new SquadronFlags();
        no("no minute", x.haze(-1, 3));
        no("no minute", x.haze(1000, 3));
        no("no HAZE", x.haze(0, -1));
        no("no HAZE", x.haze(0, 10));
        due("nothing done", x.dim(0, 999), 0);
        yes("haze", x.haze(100, 4));
        due("a minute ahead", x.dim(0, 99), 0);
        due("that minute", x.dim(0, 100), 4);
        due("a later one", x.dim(0, 999), 4);
        yes("haze", x.haze(200, 9));
        yes("haze", x.haze(150, 1));
        due("between", x.dim(0, 149), 4);
        due("between", x.dim(0, 150), 1);
        due("between", x.dim(0, 199), 1);
        due("behind", x.dim(0, 200), 9);
        yes("told last", x.haze(100, 2));
        due("told last", x.dim(0, 149), 2);
        due("the others stay", x.dim(0, 150), 1);
        yes("none again", x.haze(150, 0));
        due("none again", x.dim(0, 199), 0);
        yes("first minute", x.haze(0, 7));
        due("first minute", x.dim(0, 0), 7);
        due("first minute", x.dim(0, 99), 7);
        yes("last minute", x.haze(999, 3));
        due("last minute", x.dim(0, 999), 3);
        due("ahead of it", x.dim(0, 998), 9);
        no("no next SHIP", x.far(9, 1));
        no("no SHIP", x.far(-1, 1));
        no("not so FAR", x.far(0, 10));
        no("not so FAR", x.far(0, -1));
        yes("far", x.far(8, 9));
        yes("far", x.far(0, 5));
        due("both", x.dim(8, 200), 18);
        due("both", x.dim(0, 200), 14);
        due("others stay", x.dim(1, 200), 9);
        yes("told last", x.far(0, 0));
        due("told last", x.dim(0, 200), 9);
        due("no SHIP", x.dim(-1, 0), -1);
        due("no next SHIP", x.dim(9, 0), -1);
        due("no minute", x.dim(0, -1), -1);
        due("no minute", x.dim(0, 1000), -1);
    }

    private static void hoist() {
        SquadronFlags x = new SquadronFlags();
        due("abcd", x.hoist(0, Kit.row("abcd")), Kit.row("abcd"));
        due("abab", x.hoist(0, Kit.row("abab")), Kit.row("ab12"));
        due("the least, through a REPEATER", x.hoist(0, Kit.row("aaa")), Kit.row("a12"));
        due("abba", x.hoist(0, Kit.row("abba")), Kit.row("ab21"));
        due("abaa", x.hoist(0, Kit.row("abaa")), Kit.row("ab13"));
        due("abbb", x.hoist(0, Kit.row("abbb")), Kit.row("ab23"));
        due("abcc", x.hoist(0, Kit.row("abcc")), Kit.row("abc3"));
        due("azab", x.hoist(0, Kit.row("azab")), Kit.row("az1b"));
        due("aabz", x.hoist(0, Kit.row("aabz")), Kit.row("a1bz"));
        due("zyx", x.hoist(0, Kit.row("zyx")), Kit.row("zyx"));
        due("pab", x.hoist(0, Kit.row("pab")), Kit.row("pab"));
        due("zz", x.hoist(0, Kit.row("zz")), Kit.row("z1"));
        due("no SHIP", x.hoist(-1, 1), -1);
        due("no SHIP", x.hoist(10, 1), -1);
        due("no letters", x.hoist(0, 0), -1);
        due("no letters", x.hoist(0, -5), -1);
        due("no letter 0", x.hoist(0, 32), -1);
        due("no letter 27", x.hoist(0, 32 + 27), -1);
        due("no letter 31", x.hoist(0, 31), -1);
        due("5 letters", x.hoist(0, 1048576 + 33825), -1);
        due("5 letters", x.hoist(0, Integer.MIN_VALUE + 1), -1);
        due("z", x.hoist(0, 26), 26);
        x.locker(0, 0, 2);
        due("the third is not there", x.hoist(0, Kit.row("abcc")), -1);
        due("two are enough", x.hoist(0, Kit.row("abab")), Kit.row("ab12"));
        due("three are needed", x.hoist(0, Kit.row("aaaa")), -1);
        x.locker(0, 2, 3);
        due("no b", x.hoist(0, Kit.row("ab")), -1);
        due("no b", x.hoist(0, Kit.row("acac")), Kit.row("ac12"));
    }

    private static void tells() {
        SquadronFlags x = new SquadronFlags();
        due("one", x.tells(26), 26);
        due("zyx", x.tells(Kit.row("zyx")), Kit.row("zyx"));
        due("pab1", x.tells(Kit.row("pab1")), Kit.row("pabp"));
        due("a1", x.tells(Kit.row("a1")), Kit.row("aa"));
        due("a12", x.tells(Kit.row("a12")), Kit.row("aaa"));
        due("ab21", x.tells(Kit.row("ab21")), Kit.row("abba"));
        due("ab23", x.tells(Kit.row("ab23")), Kit.row("abbb"));
        due("abc2", x.tells(Kit.row("abc2")), Kit.row("abcb"));
        due("ab13", x.tells(Kit.row("ab13")), Kit.row("abaa"));
        due("a REPEATER first", x.tells(Kit.row("1")), -1);
        due("not below the second", x.tells(Kit.row("a2")), -1);
        due("not below the third", x.tells(Kit.row("ab3")), -1);
        due("a FLAG twice", x.tells(Kit.row("aa")), -1);
        due("a FLAG twice", x.tells(Kit.row("abca")), -1);
        due("a REPEATER twice", x.tells(Kit.row("a11")), -1);
        due("no SIGN", x.tells(30), -1);
        due("no SIGN", x.tells(32 + 31), -1);
        due("no SIGN", x.tells(32), -1);
        due("none", x.tells(0), -1);
        due("none", x.tells(-1), -1);
        due("5 SIGNS", x.tells(Kit.row("abcd") * 32 + 5), -1);
        x.locker(0, 1, 0);
        due("whoever has it", x.tells(Kit.row("a1")), Kit.row("aa"));
    }
}
