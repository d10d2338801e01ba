/** The sentences of Terms III and IV, and of the promises, that name a boundary: at it and one step beyond. */
public final class BoundaryLineTest {
    private static final int NONE = SquadronFlags.NONE;
    private static final String AB = "sense a is .a;sense b is .b;";

    public static void main(String[] args) {
        sevenHundredBytes();
        theFirstBytes();
        twelveNames();
        fourLettersTogether();
        lesserHoists();
        seenNoneTwice();
        surely();
        aloftAsLateAsSigns();
        twentyMinutesAloft();
        cantSend();
        hauledDown();
        threeHundredMinutes();
        asManyNamesAsMinutesLet();
        whatIsTold();
        twoHundredActs();
        voidByAnAct();
        annulled();
        asKnownAt();
        bookOfTheOtherSide();
        fourChanges();
        Kit.finish();
    }

    private static void due(String call, long got, long want) {
        Kit.due(call, got, want);
    }

    private static int bit(boolean is) {
        return is ? 1 : 0;
    }

    private static String times(String text, int n) {
        StringBuilder all = new StringBuilder();
        for (int i = 0; i < n; i++) {
            all.append(text);
        }
        return all.toString();
    }

    /** NONE, doing nothing, if there would be more than 700. */
    private static void sevenHundredBytes() {
        SquadronFlags x = new SquadronFlags();
        for (int left = 0; left < 20; left++) {
            x.end(0);
            for (int n = 20; n <= 700; n += 20) {
                due("feed", x.feed(0x20202020, 0x20202020, 0x20202020, 0x20202020, 0x20202020), n);
            }
            if (left > 0) {
                due("end", bit(x.end(680 + left)), 1);
            }
            due("more than 700", x.feed(-1, -1, -1, -1, -1), NONE);
            due("nothing came", bit(x.end(left > 0 ? 681 + left : 701)), 0);
            due("nothing went", bit(x.end(left > 0 ? 680 + left : 700)), 1);
            due("just 700", bit(x.end(680)), 1);
            due("just 700", x.feed(0x20202020, 0x20202020, 0x20202020, 0x20202020, 0x20202020), 700);
        }
        due("blanks alone came", x.book(), 1);
        due("the tape went", bit(x.end(1)), 0);
    }

    /** False, doing nothing, if it has not so many, or n is below 0. */
    private static void theFirstBytes() {
        SquadronFlags x = new SquadronFlags();
        due("0 of none", bit(x.end(0)), 1);
        due("1 of none", bit(x.end(1)), 0);
        due("-1 of none", bit(x.end(-1)), 0);
        Kit.tape(x, AB + "sense");
        due("below 0", bit(x.end(-1)), 0);
        due("one more", bit(x.end(34)), 0);
        due("all", bit(x.end(33)), 1);
        due("one less", bit(x.end(28)), 1);
        due("one more than that", bit(x.end(29)), 0);
        due("book", x.book(), 1);
        due("both", x.senses(), 2);
    }

    /** A MESSAGE: 1 to 12 NAMES; NONE when it is none (the one before stays). */
    private static void twelveNames() {
        SquadronFlags x = new SquadronFlags();
        Kit.book(x, AB);
        due("none", Kit.message(x, ""), NONE);
        due("blanks", Kit.message(x, "\n  \n"), NONE);
        due("no MESSAGE", x.all(2), 0);
        due("1", Kit.message(x, "b"), 1);
        due("12", Kit.message(x, times("a ", 11) + "b"), 12);
        due("13", Kit.message(x, times("a ", 13)), NONE);
        due("13, the last one no NAME", Kit.message(x, times("a ", 12) + "c"), NONE);
        due("none", Kit.message(x, " "), NONE);
        due("no NAME", Kit.message(x, "a c"), NONE);
        due("no word", Kit.message(x, "a ;"), NONE);
        due("the 12 stay", x.all(2), 12);
        due("the 12 stay", x.send(0, 0), 3);
        due("the 12 stay", x.sent(2), Kit.row("a12b"));
    }

    /** 4 letters together at most. */
    private static void fourLettersTogether() {
        SquadronFlags x = new SquadronFlags();
        Kit.book(x, "sense a is .a;sense b is .bcd;sense c is .efgh;sense d is .ij;");
        String[] messages = {"a", "a a a a", "a a a a a", "a b", "d d", "a d a", "b d", "c", "a c", "d d a", "a a b"};
        int[] hoists = {1, 1, 2, 1, 1, 1, 2, 1, 2, 2, 2};
        for (int i = 0; i < messages.length; i++) {
            due("message " + messages[i], bit(Kit.message(x, messages[i]) != NONE), 1);
            due("send " + messages[i], x.send(0, 0), hoists[i]);
            due("the last", bit(x.sent(hoists[i] - 1) != NONE), 1);
            due("none behind it", x.sent(hoists[i]), NONE);
            due("none ahead", x.sent(-1), NONE);
        }
        due("twelve", Kit.message(x, times("c ", 12)), 12);
        due("in twelve", x.send(0, 0), 12);
        due("the 12th", x.sent(11), Kit.row("efgh"));
        due("no 13th", x.sent(12), NONE);
    }

    /** Of several the fewest SIGNS; of several that in which the first HOIST in which two differ is the lesser. */
    private static void lesserHoists() {
        SquadronFlags x = new SquadronFlags();
        Kit.book(x, "sense a is .z;sense a is .ab;sense b is .y;sense b is .x;sense c is .wvu;sense d is .tsr;");
        due("message", Kit.message(x, "a"), 1);
        due("one", x.send(0, 0), 1);
        due("z has the fewer SIGNS", x.sent(0), Kit.row("z"));
        due("message", Kit.message(x, "c b d"), 3);
        due("two", x.send(0, 0), 2);
        due("3 SIGNS are less than 4", x.sent(0), Kit.row("wvu"));
        due("x is less than y", x.sent(1), Kit.row("xtsr"));
        due("message", Kit.message(x, "b c b"), 3);
        due("two", x.send(0, 0), 2);
        due("1 SIGN is less than 4", x.sent(0), Kit.row("x"));
        due("the lesser of the second", x.sent(1), Kit.row("wvux"));
        x.locker(0, 1 << 23, 3);
        due("two", x.send(0, 0), 2);
        due("y without x", x.sent(0), Kit.row("y"));
        due("y without x", x.sent(1), Kit.row("wvuy"));
    }

    /** A HOIST may be each in which FLAGS stand in place of those that they are LIKE, none twice. */
    private static void seenNoneTwice() {
        SquadronFlags x = new SquadronFlags();
        Kit.book(x, AB + "sense c is .c;");
        x.like(0, 1, 4);
        due("a b, b a, but not a a, b b", x.may(Kit.row("ab"), 4, 0, 0), 2);
        due("a c, b c", x.may(Kit.row("ac"), 4, 0, 0), 2);
        due("a c", x.may(Kit.row("ac"), 3, 0, 0), 1);
        due("a a, b b by a REPEATER", x.may(Kit.row("a1"), 4, 0, 0), 2);
        x.like(1, 2, 5);
        due("a c, b c", x.may(Kit.row("ac"), 4, 0, 0), 2);
        due("a c, b c, a b, but not b b", x.may(Kit.row("ac"), 5, 0, 0), 3);
    }

    /** SURELY: MAY is one alone. */
    private static void surely() {
        SquadronFlags x = new SquadronFlags();
        Kit.book(x, "sense a is .a for minute < 10;sense b is .b for minute > 19;sense a is .b for minute > 14;");
        Kit.message(x, "a");
        x.like(0, 1, 1);
        x.far(0, 1);
        due("one", x.may(1, 1, 0, 9), 1);
        due("line", x.line(1, 8), 1);
        due("READ at 9", x.along(1, 1), 9);
        due("none", x.may(1, 1, 0, 10), 0);
        due("none", x.may(1, 1, 0, 14), 0);
        due("one", x.may(1, 1, 0, 15), 1);
        due("line", x.line(1, 9), 1);
        due("READ at 15", x.along(1, 1), 15);
        x.far(0, 0);
        due("none for want of likeness", x.line(1, 9), 0);
        due("LOST", x.along(0, 3), 1);
        x.far(0, 1);
        Kit.book(x, "sense a is .a;sense b is .b for minute > 8 and minute < 12;");
        due("two", x.may(1, 1, 0, 9), 2);
        due("two", x.may(1, 1, 0, 11), 2);
        due("one", x.may(1, 1, 0, 12), 1);
        due("line", x.line(1, 8), 1);
        due("READ at 12", x.along(1, 1), 12);
        due("line", x.line(1, 7), 1);
        due("READ at 8", x.along(1, 1), 8);
    }

    /** It is aloft from the minute on that is as many minutes later as it has SIGNS. */
    private static void aloftAsLateAsSigns() {
        SquadronFlags x = new SquadronFlags();
        Kit.book(x, "sense a is .a;sense b is .bc;sense c is .def;sense d is .ghij;");
        for (int signs = 1; signs <= 4; signs++) {
            Kit.message(x, "" + (char) ('a' + signs - 1));
            due("line", x.line(3, 50), 1);
            for (int ship = 1; ship <= 3; ship++) {
                due("READ by " + ship, x.along(ship, 1), 50 + ship * signs);
            }
        }
        // What is clear only one minute ahead of that is not READ; at that minute it is.
        Kit.message(x, "d");
        x.like(6, 25, 1);
        Kit.book(x, "sense d is .ghij;sense z is .zhij;");
        x.haze(0, 1);
        x.haze(53, 0);
        x.haze(54, 1);
        due("aloft too late", x.line(1, 50), 0);
        due("aloft in time", x.line(1, 49), 1);
        due("READ", x.along(1, 1), 53);
    }

    /** From then on, in each minute (20 at most): not READ in its 20th minute aloft it is LOST. */
    private static void twentyMinutesAloft() {
        for (int signs = 1; signs <= 4; signs++) {
            SquadronFlags x = new SquadronFlags();
            String code = "abcd".substring(0, signs);
            Kit.book(x, "sense a is ." + code + ";sense z is .z" + code.substring(1) + ";");
            Kit.message(x, "a a");
            x.locker(0, 0, 0);
            x.like(0, 25, 1);
            x.haze(0, 1);
            x.haze(300, 0);
            // Aloft from 281 on, its 20th minute is 300.
            due("the 20th minute", x.line(1, 281 - signs), 2);
            due("not LOST", x.along(0, 3), 0);
            due("the second a minute and its SIGNS later", x.along(1, 1), 301 + signs);
            // Aloft from 280 on, its 20th minute is 299.
            due("a 21st minute", x.line(1, 280 - signs), 0);
            due("LOST", x.along(0, 3), 1);
            due("nothing READ", x.along(1, 1), NONE);
            due("no HOIST of it", x.along(0, 2), 0);
            due("not LOST by the last", x.along(1, 3), 0);
        }
    }

    /** A SHIP that can't: this and all that it READS later is LOST there, what it has ahead of that goes on. */
    private static void cantSend() {
        SquadronFlags x = new SquadronFlags();
        Kit.book(x, "sense a is .abcd;sense b is .b;sense c is .efgh;");
        Kit.message(x, "a c b c");
        x.locker(1, 1 << 1, 3);
        // b is wanting for a, too: the first thing that it READS is LOST, and all behind it.
        due("line", x.line(2, 0), 0);
        due("SHIP 1 READS all", x.along(1, 0), 4);
        due("none of its HOISTS", x.along(1, 2), 0);
        due("LOST", x.along(1, 3), 1);
        due("not by SHIP 0", x.along(0, 3), 0);
        due("not by the last", x.along(2, 3), 0);
        Kit.book(x, "sense a is .acdi;sense b is .b;sense c is .efgh;");
        due("line", x.line(2, 0), 2);
        due("SHIP 1 READS all", x.along(1, 0), 4);
        due("a and c go on", x.along(1, 2), 2);
        due("LOST", x.along(1, 3), 1);
        due("a", x.heard(0), 0);
        due("c", x.heard(1), 2);
        due("no b", x.heard(2), NONE);
        x.locker(1, 0, 3);
        x.locker(2, 67108863, 0);
        due("the last one only keeps it", x.line(2, 0), 4);
        due("nothing LOST", x.along(2, 3), 0);
        due("in THE LINE to 3 it can't", x.line(3, 0), 0);
        due("LOST there", x.along(2, 3), 1);
        due("READ there", x.along(2, 0), 4);
    }

    /** It is hauled down (the SHIP may bend on another one from the next minute on). */
    private static void hauledDown() {
        SquadronFlags x = new SquadronFlags();
        Kit.book(x, "sense a is .a;");
        Kit.message(x, "a a");
        x.locker(0, 0, 0);
        // 0 bend on, 1 READ, 2 bend on, 3 READ; SHIP 1 bends on at 1, READ at 2, at 3, READ at 4.
        due("line", x.line(2, 0), 2);
        due("SHIP 1", x.along(1, 1), 3);
        due("SHIP 2", x.along(2, 1), 4);
    }

    /** 300 minutes at most (that one the first). */
    private static void threeHundredMinutes() {
        // SHIP 3's 12th HOIST can be READ at 999, the 300th minute from 700 on, the 301st from 699 on.
        for (int start = 0; start < 2; start++) {
            SquadronFlags x = new SquadronFlags();
            Kit.book(x, "sense a is .a;sense z is .z;");
            Kit.message(x, times("a ", 12));
            for (int ship = 0; ship < 9; ship++) {
                x.locker(ship, 0, 0);
            }
            x.like(0, 25, 1);
            x.haze(0, 1);
            // Each HOIST waits for a clear minute, 20 behind the one before; the m-th of SHIP s for the (m + s)-th.
            for (int k = 0; k < 15; k++) {
                x.haze(719 + 20 * k, 0);
                x.haze(720 + 20 * k, 1);
            }
            due("line from " + (700 - start), x.line(4, 700 - start), start == 0 ? 12 : 11);
            due("the 4th SHIP's latest", x.along(4, 1), start == 0 ? 999 : 979);
            due("all of the 3rd's", x.along(3, 0), 12);
            due("its HOISTS READ", x.along(3, 2), start == 0 ? 12 : 11);
            due("nothing LOST", x.along(3, 3), 0);
        }
    }

    /** A HOIST of 4 SIGNS each 5 minutes, each READ as 4 NAMES: 232 of them reach the last SHIP. */
    private static void asManyNamesAsMinutesLet() {
        SquadronFlags x = new SquadronFlags();
        // What is sent in one minute of five is READ in another one, as 4 NAMES in place of one.
        Kit.book(x, "sense a is .bbbb for haze=0;sense b is .b for ship=0 and haze=4;"
                + "sense b is .cccc for ship=1 and haze=4;sense c is .c for ship=1 and haze=3;"
                + "sense c is .dddd for ship=2 and haze=3;sense d is .d for ship=2 and haze=2;");
        Kit.message(x, times("a ", 12));
        for (int minute = 0; minute < 300; minute++) {
            x.haze(minute, minute % 5);
        }
        due("line", x.line(3, 0), 232);
        int[][] along = {{0, NONE, 12, 0}, {48, 59, 48, 0}, {192, 243, 58, 0}, {232, 297, 0, 0}};
        for (int ship = 0; ship < 4; ship++) {
            for (int what = 0; what < 4; what++) {
                due("along(" + ship + ", " + what + ")", x.along(ship, what), along[ship][what]);
            }
        }
        due("the 232nd", x.heard(231), 5);
        due("no 233rd", x.heard(232), NONE);
    }

    /** NONE when there is none such, or for others. */
    private static void whatIsTold() {
        SquadronFlags x = new SquadronFlags();
        for (int what = -2; what < 6; what++) {
            due("all(" + what + ")", x.all(what), what >= 0 && what <= 3 ? 0 : NONE);
            due("fault(" + what + ")", x.fault(what), what == 0 ? 0 : NONE);
        }
        due("no BOOK", x.senses(), NONE);
        Kit.book(x, "");
        due("no SENSES", x.senses(), 0);
        due("none such", x.letter(0, false, 0), NONE);
        due("none such", x.holds(0, 0, 0), NONE);
        Kit.book(x, AB);
        for (int sense = -1; sense < 4; sense++) {
            boolean is = sense == 0 || sense == 1;
            due("holds(" + sense + ")", x.holds(sense, 0, 0), is ? 1 : NONE);
            due("letter of " + sense, x.letter(sense, false, 0), is ? sense + 1 : NONE);
            due("letter of " + sense, x.letter(sense, true, 5), is ? 0 : NONE);
            due("letter of " + sense, x.letter(sense, true, 6), NONE);
            due("letter of " + sense, x.letter(sense, false, -1), NONE);
        }
        Kit.message(x, "a b");
        due("line", x.line(2, 5), 2);
        for (int ship = -1; ship < 12; ship++) {
            for (int what = -1; what < 6; what++) {
                boolean is = ship >= 0 && ship <= 2 && what >= 0 && what <= 3;
                due("along(" + ship + ", " + what + ")", bit(x.along(ship, what) != NONE), bit(is && !(ship == 0 && what == 1)));
            }
        }
        due("heard(-1)", x.heard(-1), NONE);
        due("heard(0)", x.heard(0), 0);
        due("heard(1)", x.heard(1), 1);
        due("heard(2)", x.heard(2), NONE);
    }

    /** 200 at most. */
    private static void twoHundredActs() {
        for (int kind = 0; kind < 3; kind++) {
            SquadronFlags x = new SquadronFlags();
            due("book", Kit.book(x, AB), 1);
            for (int act = 2; act < 200; act++) {
                due("flown", x.flown(0, 0, 1), act);
            }
            due("a FAULT", Kit.book(x, "sense a is ."), NONE);
            due("no ACT by it", x.all(0), 199);
            Kit.tape(x, "sense c is .c;");
            due("the 200th", kind == 0 ? x.book() : kind == 1 ? x.flown(0, 0, 2) : x.annul(5), 200);
            int senses = kind == 0 ? 1 : 2;
            int flown = kind == 0 ? 198 : kind == 1 ? 199 : 197;
            due("SENSES", x.senses(), senses);
            due("flown", x.flown(0, 0, 1), NONE);
            due("annul", x.annul(6), NONE);
            due("annul", x.annul(1), NONE);
            // The text would have a FAULT, but it isn't read.
            Kit.tape(x, "sense c is .c; sense");
            due("book", x.book(), -2);
            due("no text was read", x.fault(0), kind == 0 ? 0 : 1);
            due("no text was read", x.fault(1), kind == 0 ? NONE : 12);
            due("200", x.all(0), 200);
            due("200", x.all(1), 200);
            due("FLOWN", x.all(3), flown);
            due("SENSES", x.senses(), senses);
            due("as(200)", bit(x.as(200)), 1);
            due("as(201)", bit(x.as(201)), 0);
            due("taken", x.taken(3, 201), NONE);
            due("change", x.change(201), NONE);
        }
    }

    /** As known at ACT n: ACTS up to n that are not VOID by n. */
    private static void voidByAnAct() {
        SquadronFlags x = new SquadronFlags();
        Kit.book(x, AB);
        x.flown(0, 0, 1);
        x.flown(0, 0, 2);
        due("VOID", x.annul(2), 4);
        due("VOID", x.annul(1), 5);
        int[] flown = {0, 0, 1, 2, 1, 1};
        int[] senses = {NONE, 2, 2, 2, 2, NONE};
        int[] taken = {NONE, NONE, 2, 2, NONE, NONE};
        for (int act = 0; act <= 5; act++) {
            due("as(" + act + ")", bit(x.as(act)), 1);
            due("FLOWN at " + act, x.all(3), flown[act]);
            due("SENSES at " + act, x.senses(), senses[act]);
            due("taken at " + act, x.taken(2, 1), taken[act]);
        }
        due("his BOOK at 4", x.as(3) ? x.taken(3, 4) : NONE, 2);
        due("his BOOK at 5 is VOID", x.taken(3, 5), 0);
        due("he has none", x.change(5), 0);
    }

    /** NONE when there is none such, it is VOID or tells so. */
    private static void annulled() {
        SquadronFlags x = new SquadronFlags();
        due("none", x.annul(0), NONE);
        due("none", x.annul(1), NONE);
        Kit.book(x, AB);
        x.flown(0, 0, 1);
        due("beyond the last", x.annul(3), NONE);
        due("0", x.annul(0), NONE);
        due("-1", x.annul(-1), NONE);
        due("nothing done", x.all(0), 2);
        due("the last", x.annul(2), 3);
        due("VOID", x.annul(2), NONE);
        due("it tells so", x.annul(3), NONE);
        due("nothing done", x.all(0), 3);
        due("the first", x.annul(1), 4);
        due("VOID", x.annul(1), NONE);
        due("nothing done", x.all(0), 4);
        due("nothing done", x.all(3), 0);
    }

    /** 0: none; NONE: always the last one; false when there is none such. */
    private static void asKnownAt() {
        SquadronFlags x = new SquadronFlags();
        due("as(0) of none", bit(x.as(0)), 1);
        due("as(1) of none", bit(x.as(1)), 0);
        due("still none", x.all(1), 0);
        Kit.book(x, AB);
        Kit.book(x, "");
        due("still none", x.all(1), 0);
        int[] acts = {-2, -1, 0, 1, 2, 3, Integer.MIN_VALUE, Integer.MAX_VALUE};
        int[] told = {0, 2, 0, 1, 2, 2, 2, 2};
        int[] senses = {NONE, 0, NONE, 2, 0, 0, 0, 0};
        for (int i = 0; i < acts.length; i++) {
            due("as(" + acts[i] + ")", bit(x.as(acts[i])), bit(acts[i] >= -1 && acts[i] <= 2));
            due("told at", x.all(1), told[i]);
            due("SENSES", x.senses(), senses[i]);
        }
        due("as(2)", bit(x.as(2)), 1);
        x.flown(0, 0, 1);
        due("not always the last", x.all(1), 2);
        due("as(NONE)", bit(x.as(NONE)), 1);
        due("the last", x.all(1), 3);
        x.flown(0, 0, 1);
        due("always the last", x.all(1), 4);
    }

    /** THE BOOK as known at an ACT (0: none, he has no BOOK then); NONE when there is no such ACT. */
    private static void bookOfTheOtherSide() {
        SquadronFlags x = new SquadronFlags();
        due("change(0) of none", x.change(0), 0);
        due("change(1) of none", x.change(1), NONE);
        due("change(-1)", x.change(-1), NONE);
        Kit.book(x, AB);
        x.flown(0, 0, 1);
        Kit.book(x, "sense a is .b;sense b is .a;");
        int[] taken = {NONE, 0, 1, 1, 2, NONE};
        int[] change = {NONE, 0, 0, 0, 1, NONE};
        for (int book = -1; book <= 4; book++) {
            due("taken(2, " + book + ")", x.taken(2, book), taken[book + 1]);
            due("change(" + book + ")", x.change(book), change[book + 1]);
        }
        due("changed by the latest that was not NONE", x.changed(0), 1);
        due("no more", x.changed(1), NONE);
        due("taken(1): a BOOK", x.taken(1, 1), NONE);
        due("taken(3): a BOOK", x.taken(3, 1), NONE);
        due("taken(0)", x.taken(0, 1), NONE);
        due("taken(4)", x.taken(4, 1), NONE);
        x.annul(2);
        due("taken of VOID", x.taken(2, 1), NONE);
        due("taken of what tells so", x.taken(4, 1), NONE);
        due("change without FLOWN", x.change(3), 0);
        due("changed: none", x.changed(0), NONE);
    }

    /** 4 at most: NONE when 4 are not enough; changed(k) of the latest change() that was not NONE. */
    private static void fourChanges() {
        SquadronFlags x = new SquadronFlags();
        Kit.book(x, "sense a is .a;sense b is .b;sense c is .c;sense d is .d;sense e is .e;sense e is .e;");
        for (int n = 0; n <= 4; n++) {
            due("change for " + n, x.change(1), n);
            due("changed(-1)", x.changed(-1), NONE);
            for (int k = 0; k < 6; k++) {
                due("changed(" + k + ")", x.changed(k), k < n ? k : NONE);
            }
            x.flown(0, 0, n + 1);
        }
        due("6 would be", x.change(1), NONE);
        for (int k = 0; k < 6; k++) {
            due("changed(" + k + ")", x.changed(k), k < 4 ? k : NONE);
        }
        due("two of one CODE, and two", x.annul(2), 7);
        due("5 would be", x.change(7), NONE);
        due("annul", x.annul(3), 8);
        due("4 are enough", x.change(8), 4);
        int[] changed = {2, 3, 4, 5, NONE};
        for (int k = 0; k < 5; k++) {
            due("changed(" + k + ")", x.changed(k), changed[k]);
        }
    }
}
