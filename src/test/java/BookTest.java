/** Promises 11 to 16: THE BOOK, its FAULTS, its SENSES, what rows of letters are READ in. */
public final class BookTest {
    public static void main(String[] args) {
        books();
        wrongBytes();
        placesOfLongWords();
        textsThatEndTooSoon();
        namesTooOften();
        openAtOnce();
        tooManyStatements();
        bookWhenFull();
        letters();
        tests();
        sums();
        read();
        readMany();
        Kit.finish();
    }

    private static void due(String call, long got, long want) {
        Kit.due(call, got, want);
    }

    private static void books() {
        SquadronFlags x = new SquadronFlags();
        due("an empty text", Kit.book(x, ""), 1);
        due("no SENSES", x.senses(), 0);
        due("blanks alone", Kit.book(x, " \n \n"), 2);
        due("no SENSES", x.senses(), 0);
        due("blanks left out", Kit.book(x, "sense a is.a;sense b is.b for[ship<1]and not all or(1)=1;"), 3);
        due("two", x.senses(), 2);
        due("many blanks", Kit.book(x, "\n sense\na  is \n.abcd \nfor ( ship + 1 ) * 0001 > 9999 ; "), 4);
        due("one", x.senses(), 1);
        due("the longest NAME, the longest CODE", Kit.book(x, "sense abcdef is .zzzz;"), 5);
        due("words that only begin so", Kit.book(x, "sense senses is .a;sense fo is .b;sense nots is .c;"), 6);
        due("a CODE may be an OWN WORD", Kit.book(x, "sense a is .is;sense b is .all;sense c is .for;"), 7);
        due("no FAULT", x.fault(0), 0);
        due("no FAULT", x.fault(1), -1);
        due("three", x.senses(), 3);
        due("a FAULT", Kit.book(x, "sense"), -1);
        due("THE BOOK stays", x.senses(), 3);
        due("no ACT by it", x.all(0), 7);
        due("no such", x.fault(2), -1);
        due("no such", x.fault(-1), -1);
        due("its kind", x.fault(0), 1);
        due("its place", x.fault(1), 5);
        due("none again", Kit.book(x, ""), 8);
        due("none again", x.fault(0), 0);
        due("none again", x.fault(1), -1);
    }

    private static void fault(String text, int what, int place) {
        SquadronFlags x = new SquadronFlags();
        due("book of " + text, Kit.book(x, text), -1);
        due("fault of " + text, x.fault(0), what);
        due("place in " + text, x.fault(1), place);
        due("no BOOK by " + text, x.senses(), -1);
        due("the tape went", x.feed(0, 0, 0, 0, 0), 20);
    }

    private static void wrongBytes() {
        fault("Sense a is .a;", 1, 0);
        fault("\tsense a is .a;", 1, 0);
        fault(" ;", 1, 1);
        fault("sense a is .a;;", 1, 14);
        fault("sense 12 is .a;", 1, 6);
        fault("sense 12345 is .a;", 1, 6);
        fault("sense a9 is .a;", 1, 7);
        fault("sense aB is .a;", 1, 7);
        fault("sense a.b;", 1, 7);
        fault("sense a for .b;", 1, 8);
        fault("sense a is .;", 1, 12);
        fault("sense a is .\na;", 1, 12);
        fault("sense a is .9;", 1, 12);
        fault("sense a is .ab9;", 1, 14);
        fault("sense a is .a b;", 1, 14);
        fault("sense a is .afor all;", 1, 17);
        fault("sense a is .a for all all;", 1, 22);
        fault("sense a is .a for 1 2 = 3;", 1, 20);
        fault("sense a is .a for ship;", 1, 22);
        fault("sense a is .a for ship < ;", 1, 25);
        fault("sense a is .a for ship < 1 < 2;", 1, 27);
        fault("sense a is .a for ship + < 1;", 1, 25);
        fault("sense a is .a for ship - -1;", 1, 25);
        fault("sense a is .a for (all);", 1, 19);
        fault("sense a is .a for [ship] < 1;", 1, 23);
        fault("sense a is .a for (1];", 1, 20);
        fault("sense a is .a for [all);", 1, 22);
        fault("sense a is .a for sense < 1;", 1, 18);
        fault("sense a is .a for is < 1;", 1, 18);
        fault("sense a is .a for shi < 1;", 1, 18);
        fault("sense a is .a for 1 = not;", 1, 22);
        fault("sense a is .a for all and or all;", 1, 26);
        fault("sense a is .a for all; x", 1, 23);
        fault("sense a is .a for 1=1\u00e9;", 1, 21);
        // A word beside a number, with no blank between.
        fault("sense a is .a for 6ship<1;", 1, 19);
        fault("sense a is .a for6=6;", 1, 17);
        fault("sense a is .a for 6=6and all;", 1, 21);
        fault("sense a is .a for all or6=6;", 1, 24);
        fault("sense a is .a for not12345=6;", 1, 21);
        fault("sense a is .a for ship6<1;", 1, 22);
        fault("sense a is .a for 6=6\u0000;", 1, 21);
    }

    private static void placesOfLongWords() {
        fault("sensex a is .a;", 1, 0);
        fault("sens a is .a;", 1, 0);
        fault("sense abcdefg is .a;", 1, 12);
        fault("sense abcdefghij is .a;", 1, 12);
        fault("sense minutes is .a;", 1, 12);
        fault("sense minute is .a;", 1, 6);
        for (String own : new String[] {"sense", "is", "for", "or", "and", "not", "all", "ship", "hour", "haze"}) {
            fault("sense  " + own + " is .a;", 1, 7);
        }
        fault("sense a iss .a;", 1, 8);
        fault("sense a is .abcde;", 1, 16);
        fault("sense a is .abcdefghijk;", 1, 16);
        fault("sense a is .a for 12345 = 1;", 1, 22);
        fault("sense a is .a for 1234567 = 1;", 1, 22);
        fault("sense a is .a for 00001 = 1;", 1, 22);
        fault("sense a is .a for 1 = (12345);", 1, 27);
        fault("sense a is .a for 1 12345;", 1, 20);
        fault("sense a is .a for shipshipship = 1;", 1, 18);
    }

    private static void textsThatEndTooSoon() {
        String text = "sense a is .a for not [ ( 1 ) < ship ] ;";
        int[] ends = {5, 7, 10, 12, 13, 17, 21, 23, 25, 27, 29, 31, 36, 38};
        for (int end : ends) {
            // After .a nothing is asked but ; and so on: each of these texts goes on to be a BOOK.
            fault(text.substring(0, end), 1, end);
            fault(text.substring(0, end) + "\n  ".substring(end == 12 ? 3 : 0), 1, end == 12 ? 12 : end + 3);
        }
        fault("sense a is .", 1, 12);
        fault("sense a i", 1, 8);
        fault("sen", 1, 0);
    }

    private static String times(String text, int n) {
        StringBuilder all = new StringBuilder();
        for (int i = 0; i < n; i++) {
            all.append(text);
        }
        return all.toString();
    }

    private static void namesTooOften() {
        SquadronFlags x = new SquadronFlags();
        due("6 of one NAME", Kit.book(x, times("sense ab is .a;", 6) + times("sense a is .ab;", 6)), 1);
        due("12", x.senses(), 12);
        fault(times("sense ab is .a;", 6) + "sense  ab is .b;", 2, 97);
        fault(times("sense ab is .a;", 6) + "sense ab", 2, 96);
        fault(times("sense ab is .a;", 3) + "sense b is .a;" + times("sense ab is .a;", 3) + "sense ab !", 2, 110);
        fault(times("sense ab is .a;", 6) + "sense b is .c; sens ab", 1, 105);
        due("one CODE for many", Kit.book(x, "sense a is .a;sense b is .a;sense c is .a;sense d is .a;"
                + "sense e is .a;sense f is .a;sense g is .a;sense h is .a;"), 2);
    }

    private static void openAtOnce() {
        SquadronFlags x = new SquadronFlags();
        String start = "sense a is .a for ";
        due("6 (", Kit.book(x, start + "((((((1))))))=1;"), 1);
        due("6 [", Kit.book(x, start + "[[[[[[all]]]]]];"), 2);
        due("6 not", Kit.book(x, start + "not not not not not not all;"), 3);
        due("6 of all kinds", Kit.book(x, start + "not[not[((1))=1]];"), 4);
        due("not at once", Kit.book(x, start + "((1))=((1))*((1))+((1)) and[[all]]and[[all]]and[[all]];"), 5);
        due("a not is open until its FACT ends",
                Kit.book(x, start + "not not not 1=1 and not not not not not not 1=1;"), 6);
        due("a not is open until its FACT ends", Kit.book(x, start + "not not not not not [1=1] or [[[[[[1=1]]]]]];"), 7);
        fault(start + "(((((((1)))))))=1;", 3, 24);
        fault(start + "1=(((((((1)))))));", 3, 26);
        fault(start + "[[[[[[[all]]]]]]];", 3, 24);
        fault(start + "not not not not not not not all;", 3, 42);
        fault(start + "not[not[(((1)))=1]];", 3, 28);
        fault(start + "not[not[not[not all]]];", 3, 30);
        fault(start + "not not not not not [(1)=1];", 3, 39);
        fault(start + "not not not not not [1=1 and not all];", 3, 47);
        fault(start + "not not not not not not ((1))=1;", 3, 42);
        fault(start + "not not not not not not 1=1+(1);", 3, 46);
        fault(start + "[[[[[[ (", 3, 25);
        fault(start + "all or [[[[[[[all", 3, 31);
        fault(start + "all and [[[[[[[all", 3, 32);
        fault(start + "1+(((((((1", 3, 26);
        fault(start + "1<(((((((1", 3, 26);
        fault(start + "[all or [[[[[[all", 3, 31);
        fault(start + "[[[[[[ [", 3, 25);
        fault(start + "[[[[[[ not", 3, 25);
        fault(start + "[[[[[[ )", 1, 25);
        fault(start + "[[[[[[ all [", 1, 29);
    }

    private static String statements(int n) {
        StringBuilder all = new StringBuilder();
        for (int i = 0; i < n; i++) {
            all.append("sense ").append((char) ('a' + i / 4)).append(" is .a;");
        }
        return all.toString();
    }

    private static void tooManyStatements() {
        SquadronFlags x = new SquadronFlags();
        due("40", Kit.book(x, statements(40) + " \n"), 1);
        due("40", x.senses(), 40);
        fault(statements(41), 4, 560);
        fault(statements(40) + " \n;", 4, 562);
        fault(statements(40) + "\u0001", 4, 560);
        fault(statements(40) + " 5", 4, 561);
        fault(statements(40) + "sense", 4, 560);
        fault(statements(39) + "sense k is .", 1, 558);
    }

    private static void bookWhenFull() {
        SquadronFlags x = new SquadronFlags();
        due("a FAULT", Kit.book(x, "sense a is a;"), -1);
        for (int act = 1; act <= 199; act++) {
            due("flown", x.flown(0, 0, 1), act);
        }
        due("the 200th", Kit.book(x, "sense a is .a;"), 200);
        due("no FAULT", x.fault(0), 0);
        due("200 are there", Kit.book(x, "sense"), -2);
        due("no text was read", x.fault(0), 0);
        due("no text was read", x.fault(1), -1);
        due("the tape went", x.feed(0, 0, 0, 0, 0), 20);
        due("200 are there", Kit.book(x, "sense a is .a; sense b is .b;"), -2);
        due("THE BOOK stays", x.senses(), 1);
        due("200", x.all(0), 200);
        due("flown", x.flown(0, 0, 1), -1);
        due("annul", x.annul(1), -1);
    }

    private static void letters() {
        SquadronFlags x = new SquadronFlags();
        due("without a BOOK", x.letter(0, false, 0), -1);
        due("without a BOOK", x.senses(), -1);
        due("book", Kit.book(x, "sense abczyx is .zyxw; sense q is .r;"), 1);
        int[] name = {1, 2, 3, 26, 25, 24};
        int[] code = {26, 25, 24, 23, 0, 0};
        for (int k = 0; k < 6; k++) {
            due("NAME " + k, x.letter(0, false, k), name[k]);
            due("CODE " + k, x.letter(0, true, k), code[k]);
            due("NAME " + k, x.letter(1, false, k), k == 0 ? 17 : 0);
            due("CODE " + k, x.letter(1, true, k), k == 0 ? 18 : 0);
        }
        due("book", Kit.book(x, "sense zyxwvu is .a; sense jyxwvu is .b;"), 2);
        due("z", x.letter(0, false, 0), 26);
        due("j", x.letter(1, false, 0), 10);
        due("no such SENSE", x.letter(2, false, 0), -1);
        due("no such SENSE", x.letter(-1, false, 0), -1);
        due("no such letter", x.letter(0, false, 6), -1);
        due("no such letter", x.letter(0, false, -1), -1);
        due("no such letter", x.letter(0, true, 6), -1);
    }

    private static int holds(SquadronFlags x, String test, int ship, int minute) {
        Kit.book(x, "sense a is .a for " + test + ";");
        return x.holds(0, ship, minute);
    }

    private static void tests() {
        SquadronFlags x = new SquadronFlags();
        due("without a BOOK", x.holds(0, 0, 0), -1);
        due("book", Kit.book(x, "sense a is .a;sense b is .b for ship=3;"), 1);
        due("without a TEST", x.holds(0, 0, 0), 1);
        due("another SHIP", x.holds(1, 0, 0), 0);
        due("the SHIP", x.holds(1, 3, 999), 1);
        due("no SENSE", x.holds(2, 0, 0), -1);
        due("no SENSE", x.holds(-1, 0, 0), -1);
        due("no SHIP", x.holds(0, 10, 0), -1);
        due("no SHIP", x.holds(0, -1, 0), -1);
        due("no minute", x.holds(0, 0, 1000), -1);
        due("no minute", x.holds(0, 0, -1), -1);
        due("all", holds(x, "all", 0, 0), 1);
        due("not all", holds(x, "not all", 0, 0), 0);
        due("not not all", holds(x, "not not all", 0, 0), 1);
        due("or is weaker than and", holds(x, "all or all and not all", 0, 0), 1);
        due("or is weaker than and", holds(x, "not all and all or all", 0, 0), 1);
        due("[ ]", holds(x, "[all or all] and not all", 0, 0), 0);
        due("neither", holds(x, "not all or not all", 0, 0), 0);
        due("the second", holds(x, "not all or all", 0, 0), 1);
        due("the first alone", holds(x, "all and not all", 0, 0), 0);
        due("the second alone", holds(x, "not all and all", 0, 0), 0);
        due("both", holds(x, "all and 1=1", 0, 0), 1);
        due("not is of its FACT", holds(x, "not all or all", 0, 0), 1);
        due("not of a sum", holds(x, "not 1 + 1 = 3", 0, 0), 1);
        due("not [ ]", holds(x, "not [all or all]", 0, 0), 0);
        due("<", holds(x, "ship < 4", 3, 0), 1);
        due("<", holds(x, "ship < 4", 4, 0), 0);
        due(">", holds(x, "ship > 4", 5, 0), 1);
        due(">", holds(x, "ship > 4", 4, 0), 0);
        due("=", holds(x, "ship = 4", 4, 0), 1);
        due("=", holds(x, "ship = 4", 5, 0), 0);
        due("hour", holds(x, "hour = 1", 0, 119), 1);
        due("hour", holds(x, "hour = 1", 0, 59), 0);
        due("hour", holds(x, "hour = 16", 0, 999), 1);
        due("minute", holds(x, "minute = 999", 0, 999), 1);
        due("no haze", holds(x, "haze = 0", 0, 500), 1);
        x.haze(500, 7);
        x.far(0, 2);
        due("haze", x.holds(0, 0, 500), 0);
        due("haze", holds(x, "haze = 7", 0, 700), 1);
        due("haze", x.holds(0, 0, 499), 0);
    }

    private static void sums() {
        SquadronFlags x = new SquadronFlags();
        due("from the left on", holds(x, "2 + 3 * 4 = 20", 0, 0), 1);
        due("from the left on", holds(x, "9 - 3 - 2 = 4", 0, 0), 1);
        due("( )", holds(x, "2 + (3 * 4) = 14", 0, 0), 1);
        due("below 0", holds(x, "3 - 5 < 0", 0, 0), 1);
        due("leading 0", holds(x, "0012 = 12", 0, 0), 1);
        due("9999 * 9999", holds(x, "9999 * 9999 - 9998 * 1 > 9999", 0, 0), 1);
        due("9 to the 9 fits", holds(x, "1000*1000*1000-1 < (1000*1000*1000)", 0, 0), 1);
        due("above 10 to the 9", holds(x, "9999*9999*9999 = (1000*1000*1000)", 0, 0), 1);
        due("a sum above it", holds(x, "1000*1000*1000+1 = (1000*1000*1000)", 0, 0), 1);
        due("a sum above it", holds(x, "1000*1000*1000+1-1 = (1000*1000*1000)", 0, 0), 0);
        due("below it", holds(x, "0-9999*9999*9999 = (0-1000*1000*1000)", 0, 0), 1);
        due("below it", holds(x, "0-1000*1000*1000-5+5 = (0-1000*1000*1000+5)", 0, 0), 1);
        due("far above int", holds(x, "1000*1000*1000*(1000*1000*1000) = (1000*1000*1000)", 0, 0), 1);
        due("a low product", holds(x, "1000*1000*1000*(0-1000*1000*1000) = (0-1000*1000*1000)", 0, 0), 1);
        due("a high product", holds(x, "0-1000*1000*1000*(0-1000*1000*1000) = (1000*1000*1000)", 0, 0), 1);
        due("of ship, hour and minute", holds(x, "ship*100+hour-minute = 171", 3, 131), 1);
    }

    private static void read() {
        SquadronFlags x = new SquadronFlags();
        due("without a BOOK", x.read(1, 0, 0), -1);
        Kit.book(x, "sense x is .a;sense y is .ab;sense z is .b;sense y is .c for ship = 1;sense x is .d;sense y is .d;"
                + "sense x is .a;sense w is .e;sense v is .f;sense w is .ef;sense v is .fe;sense u is .efe;sense x is .gg;");
        due("a", x.read(Kit.row("a"), 0, 0), 1);
        due("ab: x z, y", x.read(Kit.row("ab"), 0, 0), 2);
        due("none", x.read(Kit.row("c"), 0, 0), 0);
        due("for SHIP 1", x.read(Kit.row("c"), 1, 0), 1);
        due("no letter left over", x.read(Kit.row("bc"), 0, 0), 0);
        due("two NAMES of one CODE", x.read(Kit.row("d"), 0, 0), 2);
        due("dd", x.read(Kit.row("dd"), 0, 0), 4);
        due("abab", x.read(Kit.row("abab"), 0, 0), 4);
        due("dddd", x.read(Kit.row("dddd"), 0, 0), 16);
        // efe: w v w, w v (e|fe), w w (ef|e), u.
        due("efe", x.read(Kit.row("efe"), 0, 0), 4);
        due("like rows are one: efef", x.read(Kit.row("ggg"), 0, 0), 0);
        due("gggg", x.read(Kit.row("gggg"), 0, 0), 1);
        due("no letters", x.read(0, 0, 0), -1);
        due("a REPEATER is no letter", x.read(Kit.row("a1"), 0, 0), -1);
        due("5 letters", x.read(1 << 20 | 33825, 0, 0), -1);
        due("no SHIP", x.read(1, -1, 0), -1);
        due("no SHIP", x.read(1, 10, 0), -1);
        due("no minute", x.read(1, 0, -1), -1);
        due("no minute", x.read(1, 0, 1000), -1);
        Kit.book(x, "sense x is .a;sense y is .bc;sense x is .ab;sense y is .c;");
        due("like rows are one", x.read(Kit.row("abc"), 0, 0), 1);
        Kit.book(x, "sense x is .a;sense y is .b;");
        due("row by row", x.read(Kit.row("ab"), 0, 0), 1);
        Kit.book(x, "sense x is .abc for ship=1;sense y is .zyx;sense z is .abcd for ship=2;sense w is .ab for ship=3;");
        due("not for him", x.read(Kit.row("abc"), 0, 0), 0);
        due("for him", x.read(Kit.row("abc"), 1, 0), 1);
        due("not for him", x.read(Kit.row("abcd"), 1, 0), 0);
        due("for him", x.read(Kit.row("abcd"), 2, 0), 1);
        due("for him", x.read(Kit.row("abab"), 3, 0), 1);
        due("high letters", x.read(Kit.row("zyx"), 0, 0), 1);
        Kit.book(x, "");
        due("a BOOK without SENSES", x.read(1, 0, 0), 0);
    }

    private static void readMany() {
        SquadronFlags x = new SquadronFlags();
        Kit.book(x, "sense a is .a;sense b is .a;sense c is .a;");
        due("81", x.read(Kit.row("aaaa"), 0, 0), 81);
        Kit.book(x, "sense a is .a;sense b is .a;sense c is .a;sense d is .aa;sense e is .aa;sense f is .aaa;sense g is .aaa;");
        due("81 and 2 * 3 * 9 and 4 and 12: 100 alone", x.read(Kit.row("aaaa"), 0, 0), 100);
        due("27 and 12 and 2", x.read(Kit.row("aaa"), 0, 0), 41);
        StringBuilder text = new StringBuilder();
        for (int i = 0; i < 10; i++) {
            text.append("sense ").append((char) ('a' + i)).append(" is .a;");
        }
        Kit.book(x, text.toString());
        due("100", x.read(Kit.row("aa"), 0, 0), 100);
        due("more", x.read(Kit.row("aaa"), 0, 0), 100);
        due("10", x.read(Kit.row("a"), 0, 0), 10);
        Kit.book(x, text.substring(0, text.length() - 14) + "sense zz is .zz;");
        due("81 and none", x.read(Kit.row("aa"), 0, 0), 81);
        due("a dead end", x.read(Kit.row("aaaz"), 0, 0), 0);
        due("to the last SENSE", x.read(Kit.row("azz"), 0, 0), 9);
        text.setLength(0);
        for (int i = 0; i < 40; i++) {
            text.append("sense ").append((char) ('a' + i % 20)).append(i < 20 ? "" : "a").append(" is .a;");
        }
        due("40 NAMES", Kit.book(x, text.toString()), x.all(0));
        due("all 40", x.read(Kit.row("a"), 0, 0), 40);
    }
}
