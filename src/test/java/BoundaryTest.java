/** The sentences of Terms I to IV that name a boundary, in their order: each at its boundary and one step beyond. */
public final class BoundaryTest {
    private static final int NONE = SquadronFlags.NONE;

    /** A call with one number in it that has a least and a most. */
    private interface Call {
        int on(SquadronFlags x, int n);
    }

    public static void main(String[] args) {
        flagsAndRepeaters();
        oneToFourSigns();
        noneTwice();
        belowTheKthSign();
        ships();
        lockers();
        theLeastRepeater();
        likeFromADimOn();
        likeThreeOthers();
        minutes();
        howFarAndHaze();
        latestMinuteTold();
        blanks();
        sideBySide();
        sixLettersOfAName();
        ownWords();
        sixSensesOfAName();
        fourLettersOfACode();
        fourDigits();
        hours();
        sumsToTheMost();
        sumsToTheLeast();
        sixOpenAtOnce();
        fortyStatements();
        endsTooSoon();
        hundredRows();
        hundredRowsOfMay();
        plain();
        Kit.finish();
    }

    private static void due(String call, long got, long want) {
        Kit.due(call, got, want);
    }

    private static int bit(boolean is) {
        return is ? 1 : 0;
    }

    /** The call is done at the least and the most, and refused one step beyond, and far beyond. */
    private static void range(String name, int least, int most, int refused, Call call) {
        SquadronFlags x = ready();
        due(name + " of the least is done", bit(call.on(x, least) != refused), 1);
        x = ready();
        due(name + " of the most is done", bit(call.on(x, most) != refused), 1);
        x = ready();
        for (int beyond : new int[] {least - 1, most + 1, Integer.MIN_VALUE, Integer.MAX_VALUE}) {
            due(name + " of " + beyond, call.on(x, beyond), refused);
        }
        due(name + ": no ACT by the refused ones", x.all(0), 1);
    }

    /** One BOOK, a to z each by its own letter, and a MESSAGE. */
    private static SquadronFlags ready() {
        SquadronFlags x = new SquadronFlags();
        StringBuilder text = new StringBuilder();
        for (char c = 'a'; c <= 'z'; c++) {
            text.append("sense ").append(c).append(" is .").append(c).append(';');
        }
        due("book", Kit.book(x, text.toString()), 1);
        due("message", Kit.message(x, "a b"), 2);
        return x;
    }

    /** FLAGS are letters a .. z (0 .. 25), REPEATERS are 1 .. 3. */
    private static void flagsAndRepeaters() {
        SquadronFlags x = new SquadronFlags();
        due("a", x.tells(1), 1);
        due("z", x.tells(26), 26);
        due("0 is no SIGN", x.tells(0), NONE);
        due("0 is no SIGN below another", x.tells(Kit.row("ab") * 32), NONE);
        due("REPEATER 1", x.tells(Kit.row("abc") * 32 + 27), Kit.row("abca"));
        due("REPEATER 3", x.tells(Kit.row("abc") * 32 + 29), Kit.row("abcc"));
        due("30 is no SIGN", x.tells(Kit.row("abc") * 32 + 30), NONE);
        due("31 is no SIGN", x.tells(Kit.row("abc") * 32 + 31), NONE);
        range("like(n, 12, 1)", 0, 25, 0, (y, n) -> bit(y.like(n, 12, 1)));
        range("like(12, n, 1)", 0, 25, 0, (y, n) -> bit(y.like(12, n, 1)));
    }

    /** A HOIST: 1 to 4 SIGNS; a row of 1 to 4 letters. */
    private static void oneToFourSigns() {
        SquadronFlags x = ready();
        int four = Kit.row("zyxw");
        int five = 32 * Kit.row("abcd") + 5;
        due("a HOIST of 1", x.tells(1), 1);
        due("a HOIST of 4", x.tells(four), four);
        due("a HOIST of 5", x.tells(five), NONE);
        due("may of 4", x.may(four, 0, 0, 0), 1);
        due("may of 5", x.may(five, 0, 0, 0), NONE);
        due("may of none", x.may(0, 0, 0, 0), NONE);
        due("flown 5", x.flown(0, 0, five), NONE);
        due("flown none", x.flown(0, 0, 0), NONE);
        due("no ACT by it", x.all(0), 1);
        due("flown 4", x.flown(0, 0, four), 2);
        due("hoist for 1", x.hoist(0, 1), 1);
        due("hoist for 4", x.hoist(0, four), four);
        due("hoist for 5", x.hoist(0, five), NONE);
        due("hoist for none", x.hoist(0, 0), NONE);
        due("read of 1", x.read(1, 0, 0), 1);
        due("read of 4", x.read(four, 0, 0), 1);
        due("read of 5", x.read(five, 0, 0), NONE);
        due("read of none", x.read(0, 0, 0), NONE);
    }

    /** None twice. */
    private static void noneTwice() {
        SquadronFlags x = new SquadronFlags();
        due("two FLAGS", x.tells(Kit.row("ab")), Kit.row("ab"));
        due("one twice", x.tells(Kit.row("aa")), NONE);
        due("first and last", x.tells(Kit.row("abca")), NONE);
        due("two REPEATERS", x.tells(Kit.row("ab12")), Kit.row("abab"));
        due("one REPEATER twice", x.tells(Kit.row("ab11")), NONE);
    }

    /** A REPEATER k stands below the k-th SIGN; it may be a REPEATER, too. */
    private static void belowTheKthSign() {
        SquadronFlags x = new SquadronFlags();
        due("1 on top", x.tells(Kit.row("1")), NONE);
        due("1 below one", x.tells(Kit.row("a1")), Kit.row("aa"));
        due("2 below one", x.tells(Kit.row("a2")), NONE);
        due("2 below two", x.tells(Kit.row("ab2")), Kit.row("abb"));
        due("3 below two", x.tells(Kit.row("ab3")), NONE);
        due("3 below three", x.tells(Kit.row("abc3")), Kit.row("abcc"));
        due("2 repeats a REPEATER", x.tells(Kit.row("a12")), Kit.row("aaa"));
        due("3 repeats what repeats one", x.tells(Kit.row("a123")), Kit.row("aaaa"));
        due("itself it can't repeat", x.tells(Kit.row("a21")), NONE);
    }

    /** SHIPS 0 .. 9; to the next one from 0 .. 8. */
    private static void ships() {
        range("locker(ship)", 0, 9, 0, (x, n) -> bit(x.locker(n, 0, 3)));
        range("hoist(ship)", 0, 9, NONE, (x, n) -> x.hoist(n, 1));
        range("holds(ship)", 0, 9, NONE, (x, n) -> x.holds(0, n, 0));
        range("read(ship)", 0, 9, NONE, (x, n) -> x.read(1, n, 0));
        range("send(ship)", 0, 9, NONE, (x, n) -> x.send(n, 0));
        range("may(ship)", 0, 9, NONE, (x, n) -> x.may(1, 0, n, 0));
        range("flown(ship)", 0, 9, NONE, (x, n) -> x.flown(n, 0, 1));
        range("far(ship)", 0, 8, 0, (x, n) -> bit(x.far(n, 1)));
        range("dim(ship)", 0, 8, NONE, (x, n) -> x.dim(n, 0));
        range("line(last)", 1, 9, NONE, (x, n) -> x.line(n, 0));
    }

    /** All FLAGS but those that their LOCKER lacks (0 .. 67108863), and the first 0 .. 3 REPEATERS (3 at first). */
    private static void lockers() {
        range("locker(lacks)", 0, 67108863, 0, (x, n) -> bit(x.locker(0, n, 3)));
        range("locker(repeaters)", 0, 3, 0, (x, n) -> bit(x.locker(0, 0, n)));
        int[] rows = {Kit.row("aa"), Kit.row("aaa"), Kit.row("aaaa")};
        int[] hoists = {Kit.row("a1"), Kit.row("a12"), Kit.row("a123")};
        SquadronFlags x = new SquadronFlags();
        due("3 at first", x.hoist(7, rows[2]), hoists[2]);
        for (int have = 0; have <= 3; have++) {
            x.locker(7, 0, have);
            for (int need = 1; need <= 3; need++) {
                due(need + " of " + have, x.hoist(7, rows[need - 1]), need <= have ? hoists[need - 1] : NONE);
            }
        }
        x.locker(7, 67108863 - (1 << 25), 3);
        due("all but z lacking: z", x.hoist(7, 26), 26);
        due("all but z lacking: y", x.hoist(7, 25), NONE);
        x.locker(7, 67108863 - 1, 3);
        due("all but a lacking: a", x.hoist(7, 1), 1);
        due("all but a lacking: b", x.hoist(7, 2), NONE);
    }

    /** The FLAG, if it is not aloft; else the least REPEATER, not aloft, whose SIGN tells this; else it can't. */
    private static void theLeastRepeater() {
        SquadronFlags x = new SquadronFlags();
        due("1 and 2 could", x.hoist(0, Kit.row("aaab")), Kit.row("a12b"));
        due("1 is aloft", x.hoist(0, Kit.row("aaa")), Kit.row("a12"));
        due("2 alone can", x.hoist(0, Kit.row("abb")), Kit.row("ab2"));
        due("3 alone can", x.hoist(0, Kit.row("abcc")), Kit.row("abc3"));
        x.locker(0, 0, 2);
        due("3 is not there", x.hoist(0, Kit.row("abcc")), NONE);
        due("1 is there", x.hoist(0, Kit.row("abca")), Kit.row("abc1"));
    }

    /** LIKE from a DIM of 1 .. 18 on (as told last; 0: never, at first). */
    private static void likeFromADimOn() {
        range("like(dim)", 0, 18, 0, (x, n) -> bit(x.like(0, 1, n)));
        range("may(dim)", 0, 18, NONE, (x, n) -> x.may(1, n, 0, 0));
        SquadronFlags x = ready();
        due("never at first", x.may(1, 18, 0, 0), 1);
        x.like(0, 1, 18);
        due("from 18 on: at 17", x.may(1, 17, 0, 0), 1);
        due("from 18 on: at 18", x.may(1, 18, 0, 0), 2);
        x.like(0, 1, 1);
        due("from 1 on: at 0", x.may(1, 0, 0, 0), 1);
        due("from 1 on: at 1", x.may(1, 1, 0, 0), 2);
        due("unlike FLAGS alone", bit(x.like(1, 1, 5)), 0);
        due("not even never", bit(x.like(1, 1, 0)), 0);
        x.like(1, 0, 0);
        due("never, as told last", x.may(1, 18, 0, 0), 1);
    }

    /** Each FLAG is LIKE 3 others at most (none by 0). */
    private static void likeThreeOthers() {
        int[][] fours = {{1, 0, 2, 3, 4}, {1, 22, 23, 24, 25}, {0, 1, 2, 3, 25}, {25, 0, 1, 2, 24}};
        for (int[] f : fours) {
            for (int turned = 0; turned < 2; turned++) {
                SquadronFlags x = ready();
                for (int k = 1; k <= 3; k++) {
                    due("other " + k, bit(like(x, f[0], f[k], 5, turned)), 1);
                }
                due("a 4th", bit(like(x, f[0], f[4], 5, turned)), 0);
                due("it wasn't done", x.may(f[4] + 1, 18, 0, 0), 1);
                due("it wasn't done", x.may(f[0] + 1, 18, 0, 0), 4);
                due("a 4th by 0", bit(like(x, f[0], f[4], 0, turned)), 1);
                due("one of the 3 anew", bit(like(x, f[0], f[3], 9, turned)), 1);
                due("anew", x.may(f[0] + 1, 8, 0, 0), 3);
                due("one of the 3 never", bit(like(x, f[0], f[1], 0, turned)), 1);
                due("now there is room", bit(like(x, f[0], f[4], 5, turned)), 1);
                due("and none again", bit(like(x, f[0], f[1], 5, turned)), 0);
            }
        }
    }

    private static boolean like(SquadronFlags x, int flag, int other, int dim, int turned) {
        return turned == 0 ? x.like(flag, other, dim) : x.like(other, flag, dim);
    }

    /** A minute (0 .. 999); THE LINE from a minute (0 .. 700) on. */
    private static void minutes() {
        range("haze(minute)", 0, 999, 0, (x, n) -> bit(x.haze(n, 1)));
        range("dim(minute)", 0, 999, NONE, (x, n) -> x.dim(0, n));
        range("holds(minute)", 0, 999, NONE, (x, n) -> x.holds(0, 0, n));
        range("read(minute)", 0, 999, NONE, (x, n) -> x.read(1, 0, n));
        range("send(minute)", 0, 999, NONE, (x, n) -> x.send(0, n));
        range("may(minute)", 0, 999, NONE, (x, n) -> x.may(1, 0, 0, n));
        range("flown(minute)", 0, 999, NONE, (x, n) -> x.flown(0, n, 1));
        range("line(minute)", 0, 700, NONE, (x, n) -> x.line(1, n));
    }

    /** How FAR (0 .. 9; 0 at first) that is, and the HAZE (0 .. 9). */
    private static void howFarAndHaze() {
        range("far(n)", 0, 9, 0, (x, n) -> bit(x.far(0, n)));
        range("haze(n)", 0, 9, 0, (x, n) -> bit(x.haze(0, n)));
        SquadronFlags x = new SquadronFlags();
        due("not FAR at first", x.dim(8, 0), 0);
        x.far(8, 9);
        due("FAR alone", x.dim(8, 0), 9);
        x.haze(0, 9);
        due("the most DIM", x.dim(8, 0), 18);
        x.far(8, 10);
        x.haze(0, 10);
        due("the refused ones did nothing", x.dim(8, 0), 18);
        due("HAZE alone", x.dim(7, 0), 9);
    }

    /** Of the latest minute of which it was told, that one or one ahead of it (0 without). */
    private static void latestMinuteTold() {
        SquadronFlags x = new SquadronFlags();
        x.haze(500, 6);
        due("none ahead", x.dim(0, 499), 0);
        due("that one", x.dim(0, 500), 6);
        due("one ahead of it", x.dim(0, 501), 6);
        x.haze(498, 2);
        due("ahead of both", x.dim(0, 497), 0);
        due("between", x.dim(0, 499), 2);
        due("the later one stays", x.dim(0, 500), 6);
        x.haze(499, 0);
        due("told to be 0", x.dim(0, 499), 0);
        due("the later one stays", x.dim(0, 500), 6);
        x.haze(499, 5);
        due("told last", x.dim(0, 499), 5);
        x.haze(999, 1);
        due("ahead of the last minute", x.dim(0, 998), 6);
        due("the last minute", x.dim(0, 999), 1);
    }

    private static void fault(String text, int what, int place) {
        SquadronFlags x = new SquadronFlags();
        due("book of " + text, Kit.book(x, text), NONE);
        due("FAULT of " + text, x.fault(0), what);
        due("place in " + text, x.fault(1), place);
        due("no ACT by " + text, x.all(0), 0);
        due("no BOOK by " + text, x.senses(), NONE);
    }

    private static void reads(String text, int senses) {
        SquadronFlags x = new SquadronFlags();
        due("book of " + text, Kit.book(x, text), 1);
        due("no FAULT in " + text, x.fault(0), 0);
        due("SENSES of " + text, x.senses(), senses);
    }

    /** Blanks (10, 32). */
    private static void blanks() {
        reads("\n \nsense\na\nis\n.a\nfor\nall\n;\n", 1);
        for (char c : new char[] {0, 9, 11, 13, 31, 33, 127, 160, 255}) {
            fault("sense" + c + "a is .a;", 1, 5);
            SquadronFlags x = ready();
            due("message with " + (int) c, Kit.message(x, "a" + c + "b b"), NONE);
            due("the one before stays", x.all(2), 2);
        }
        SquadronFlags x = ready();
        due("message with 10", Kit.message(x, "\na\nb\n\nb"), 3);
    }

    /** Words and numbers side by side need one. */
    private static void sideBySide() {
        reads("sense a is.a for ship<1 or 2>ship and not[hour=3]or(4)=5;", 1);
        fault("sense a is .a for ship<1or all;", 1, 24);
        fault("sense a is .a for 1=2and all;", 1, 21);
        fault("sense a is .a for 1=ship2;", 1, 24);
        fault("sense a is .a for notship=1;", 1, 18);
        fault("sense a is .a for not1=1;", 1, 21);
        fault("senseais .a;", 1, 0);
    }

    /** NAME: 1 to 6 letters; a 7th letter of what is no OWN WORD. */
    private static void sixLettersOfAName() {
        reads("sense a is .a;", 1);
        reads("sense abcdef is .a;", 1);
        fault("sense abcdefg is .a;", 1, 12);
        fault("sense minutes is .a;", 1, 12);
        fault("sense is .a;", 1, 6);
        SquadronFlags x = new SquadronFlags();
        Kit.book(x, "sense abcdef is .a;");
        due("a word of 6", Kit.message(x, "abcdef"), 1);
        due("a word of 7", Kit.message(x, "abcdefg"), NONE);
        due("the 6th letter", x.letter(0, false, 5), 6);
        due("there is no 7th", x.letter(0, false, 6), NONE);
    }

    /** No OWN WORD. */
    private static void ownWords() {
        String[] own = {"sense", "is", "for", "or", "and", "not", "all", "ship", "hour", "minute", "haze"};
        for (String word : own) {
            fault("sense " + word + " is .a;", 1, 6);
            String less = word.substring(0, word.length() - 1);
            reads("sense " + less + " is .a;", 1);
            if (word.length() < 6) {
                reads("sense " + word + "s is .a;", 1);
            }
            reads("sense q is ." + word.substring(0, Math.min(4, word.length())) + ";", 1);
        }
    }

    private static String times(String text, int n) {
        StringBuilder all = new StringBuilder();
        for (int i = 0; i < n; i++) {
            all.append(text);
        }
        return all.toString();
    }

    /** 6 SENSES at most may have one NAME: 2, the NAME of a 7th SENSE that has it, at it. */
    private static void sixSensesOfAName() {
        reads(times("sense q is .a;", 6), 6);
        fault(times("sense q is .a;", 7), 2, 90);
        reads(times("sense q is .a;", 6) + "sense qq is .a;", 7);
        fault(times("sense q is .a;", 6) + "sense qq is .a; sense q", 2, 106);
        // Several SENSES may have one CODE.
        StringBuilder one = new StringBuilder();
        for (int i = 0; i < 40; i++) {
            one.append("sense ").append((char) ('a' + i % 20)).append(i < 20 ? "" : "a").append(" is .zzzz;");
        }
        reads(one.toString(), 40);
    }

    /** CODE: . and, without a blank between, 1 to 4 letters; a 5th letter at itself. */
    private static void fourLettersOfACode() {
        reads("sense q is .a;", 1);
        reads("sense q is .abcd;", 1);
        fault("sense q is .abcde;", 1, 16);
        fault("sense q is .;", 1, 12);
        fault("sense q is . a;", 1, 12);
        fault("sense q is .\na;", 1, 12);
        fault("sense q is a;", 1, 11);
        SquadronFlags x = new SquadronFlags();
        Kit.book(x, "sense q is .abcd;");
        due("the 4th letter", x.letter(0, true, 3), 4);
        due("0 behind it", x.letter(0, true, 4), 0);
        due("0 behind it", x.letter(0, true, 5), 0);
        due("none such", x.letter(0, true, 6), NONE);
        due("none such", x.letter(0, true, -1), NONE);
    }

    private static int holds(String test, int ship, int minute) {
        SquadronFlags x = new SquadronFlags();
        due("book for " + test, Kit.book(x, "sense q is .a for " + test + ";"), 1);
        return x.holds(0, ship, minute);
    }

    /** NUMBER (1 to 4 digits); a 5th digit at itself. */
    private static void fourDigits() {
        due("1 digit", holds("0 < 1", 0, 0), 1);
        due("4 digits", holds("9999 = (9*1000+999)", 0, 0), 1);
        fault("sense q is .a for 10000 = 1;", 1, 22);
        fault("sense q is .a for 1 = 00001;", 1, 26);
        fault("sense 10000 is .a;", 1, 6);
    }

    /** Hour (minute / 60). */
    private static void hours() {
        due("0 at 59", holds("hour = 0", 0, 59), 1);
        due("1 at 60", holds("hour = 1", 0, 60), 1);
        due("15 at 959", holds("hour = 15", 0, 959), 1);
        due("16 at 960", holds("hour = 16", 0, 960), 1);
        due("16 at 999", holds("hour = 16", 0, 999), 1);
    }

    // 9999 * 9999 * 10 is 999800010, so that 10 to the 9 is 199990 above it.
    private static final String NEAR = "(9999*9999*10)";
    private static final String MOST = "(1000*1000*1000)";

    private static void most(String sum, int below) {
        due(sum, holds(sum + "-" + NEAR + " = (1999*100+" + (90 - below) + ")", 0, 0), 1);
    }

    private static void least(String sum, int above) {
        due(sum, holds(sum + "+" + NEAR + " = (0-1999*100-" + (90 - above) + ")", 0, 0), 1);
    }

    /** Each sum, difference, product above 10 to the 9 is that. */
    private static void sumsToTheMost() {
        most("1000*1000*1000", 0);
        most("1000*1000*1001", 0);
        most("9999*9999*11", 0);
        most("9999*9999*9999*9999*9999", 0);
        most("0-1000*1000*(0-1000)", 0);
        most("0-1000*1000*(0-1001)", 0);
        most(MOST + "-1", 1);
        most(MOST + "-1+1", 0);
        most(MOST + "-1+2", 0);
        most(MOST + "+" + MOST, 0);
        most(MOST + "-1-(0-1)", 0);
        most(MOST + "-1-(0-2)", 0);
        most(MOST + "-(0-" + MOST + ")", 0);
        // It is that at each step, so what is taken away then shows.
        most(MOST + "+5-5", 5);
    }

    /** Below -10 to the 9 likewise. */
    private static void sumsToTheLeast() {
        least("0-1000*1000*1000", 0);
        least("0-1000*1000*1001", 0);
        least("0-9999*9999*9999*9999*9999", 0);
        least("1000*1000*(0-1001)", 0);
        least("0-" + MOST, 0);
        least("0-" + MOST + "-1", 0);
        least("0-" + MOST + "-" + MOST, 0);
        least("0-" + MOST + "+1", 1);
        least("0-" + MOST + "+1+(0-1)", 0);
        least("0-" + MOST + "+1+(0-2)", 0);
        least("0-" + MOST + "+(0-" + MOST + ")", 0);
        least("0-" + MOST + "-5+5", 5);
    }

    /** 3: the 7th ( [ not that is open at once (not until its FACT ends), at it. */
    private static void sixOpenAtOnce() {
        String start = "sense q is .a for ";
        for (int kinds = 0; kinds < 64; kinds++) {
            // Six of [ and not in every order, all around one FACT; then a 7th of each kind.
            StringBuilder open = new StringBuilder();
            StringBuilder close = new StringBuilder();
            for (int k = 0; k < 6; k++) {
                open.append((kinds >> k & 1) == 0 ? "[" : " not ");
                close.append((kinds >> k & 1) == 0 ? "]" : "");
            }
            reads(start + open + "1=1" + close + ";", 1);
            int at = start.length() + open.length();
            fault(start + open + "[1=1]", 3, at);
            fault(start + open + "(1)=1", 3, at);
            fault(start + open + "not 1=1", 3, at);
            fault(start + open + "1=(1)", 3, at + 2);
        }
        reads(start + "((((((1))))))<((((((2))))));", 1);
        fault(start + "(((((((1)))))))<2;", 3, 24);
        fault(start + "1<(((((((2)))))));", 3, 26);
        // Behind its FACT a not is open no more, behind its end a ( or [ neither.
        reads(start + "not not not not not not all and not not not not not not all;", 1);
        reads(start + "not not not not not not 1=1 or [[[[[[all]]]]]];", 1);
        reads(start + "[[[[[[all]]]]]] and ((((((1))))))=1;", 1);
        fault(start + "not not not not not [all and not all];", 3, 47);
    }

    private static String statements(int n) {
        StringBuilder all = new StringBuilder();
        for (int i = 0; i < n; i++) {
            all.append("sense ").append((char) ('a' + i / 6)).append(" is .a;");
        }
        return all.toString();
    }

    /** 4: a 41st STATEMENT (whatever stands there), at its first byte. */
    private static void fortyStatements() {
        reads(statements(40), 40);
        reads(statements(40) + "\n ", 40);
        fault(statements(41), 4, 560);
        fault(statements(40) + " \nsense", 4, 562);
        fault(statements(40) + ";", 4, 560);
        fault(statements(40) + " 12345", 4, 561);
        fault(statements(40) + "\u00ff", 4, 560);
        fault(statements(39) + "sense a is .a; x", 2, 552);
        fault(statements(39) + " ;", 1, 547);
        SquadronFlags x = new SquadronFlags();
        Kit.book(x, statements(40));
        due("the 40th", x.letter(39, false, 0), 7);
        due("no 41st", x.letter(40, false, 0), NONE);
        due("the 40th", x.holds(39, 0, 0), 1);
        due("no 41st", x.holds(40, 0, 0), NONE);
    }

    /** 1, at the text's length, if it ends too soon (words and numbers whole, at their first byte). */
    private static void endsTooSoon() {
        reads("", 0);
        reads("\n", 0);
        String text = "sense q is .a for not [ ( 1 + ship ) < 2 and all ] or all ;";
        reads(text, 1);
        for (int end = 1; end < text.length(); end++) {
            String part = text.substring(0, end);
            char last = part.charAt(end - 1);
            char next = text.charAt(end);
            boolean within = last >= 'a' && last <= 'z' && next >= 'a' && next <= 'z';
            boolean ends = part.endsWith("f") && !part.endsWith(" f") || !within;
            if (ends) {
                fault(part, 1, end);
            } else {
                fault(part, 1, part.lastIndexOf(' ') + 1);
            }
        }
        // The tape's 700 bytes, all of them text.
        StringBuilder whole = new StringBuilder("sense q is .a for 1");
        while (whole.length() < 697) {
            whole.append("+1");
        }
        fault(whole + "=", 1, 698);
        fault(whole + "+ =", 1, 699);
        reads(whole + "=1;", 1);
        reads(times(" ", 686) + "sense q is .a;", 1);
        fault(times(" ", 699) + "s", 1, 699);
    }

    /** How many there are is told as 100, if there are as many or more. */
    private static void hundredRows() {
        due("10 * 9 and 9", rows(10, 9, 9), 99);
        due("9 * 11", rows(9, 11, 0), 99);
        due("10 * 9 and 10", rows(10, 9, 10), 100);
        due("10 * 10", rows(10, 10, 0), 100);
        due("10 * 10 and 1", rows(10, 10, 1), 100);
        due("10 * 9 and 11", rows(10, 9, 11), 100);
        due("13 * 13 and 13", rows(13, 13, 13), 100);
    }

    /** Ways of ab, with so many NAMES of .a, of .b and of .ab. */
    private static int rows(int a, int b, int ab) {
        SquadronFlags x = new SquadronFlags();
        due("book", Kit.book(x, senses('a', a, ".a") + senses('b', b, ".b") + senses('c', ab, ".ab")), 1);
        return x.read(Kit.row("ab"), 0, 0);
    }

    private static String senses(char first, int n, String code) {
        StringBuilder text = new StringBuilder();
        for (int i = 0; i < n; i++) {
            text.append("sense ").append(first).append((char) ('a' + i)).append(" is").append(code).append(';');
        }
        return text.toString();
    }

    /** Likewise of MAY. */
    private static void hundredRowsOfMay() {
        SquadronFlags x = new SquadronFlags();
        Kit.book(x, senses('a', 9, ".a") + senses('b', 11, ".b") + senses('c', 1, ".c") + senses('d', 2, ".d"));
        x.like(0, 2, 5);
        due("9 * 11 and 11", x.may(Kit.row("ab"), 5, 0, 0), 100);
        due("9 * 11", x.may(Kit.row("ab"), 4, 0, 0), 99);
        // a d and c d: 9 * 2 and 2.
        due("20", x.may(Kit.row("ad"), 5, 0, 0), 20);
        Kit.book(x, senses('a', 9, ".a") + senses('b', 11, ".b") + senses('c', 1, ".cb") + senses('d', 2, ".db"));
        due("9 * 11 and 1", x.may(Kit.row("ab"), 5, 0, 0), 100);
        x.like(0, 2, 0);
        x.like(0, 3, 5);
        due("9 * 11 and 2", x.may(Kit.row("ab"), 5, 0, 0), 100);
        due("9 * 11", x.may(Kit.row("ab"), 4, 0, 0), 99);
    }

    /** PLAIN, if there is one alone; like rows are one. */
    private static void plain() {
        SquadronFlags x = new SquadronFlags();
        Kit.book(x, "sense a is .a;sense b is .b;sense c is .c;sense c is .c;sense d is .d;sense e is .d;sense a is .ab;"
                + "sense b is .bb;");
        due("none", x.read(Kit.row("e"), 0, 0), 0);
        due("one", x.read(Kit.row("a"), 0, 0), 1);
        due("like ones are one", x.read(Kit.row("c"), 0, 0), 1);
        due("two", x.read(Kit.row("d"), 0, 0), 2);
        due("a bb, ab b are like ones, a b b is none of them", x.read(Kit.row("abb"), 0, 0), 2);
        due("message", Kit.message(x, "c"), 1);
        due("one is PLAIN", x.send(0, 0), 1);
        due("message", Kit.message(x, "d"), 1);
        due("two are not", x.send(0, 0), NONE);
        due("what was sent stays", x.sent(0), 3);
    }
}
