/** Promises 21 to 23: THE LINE, what each SHIP READ and LOST by it, what the last one heard. */
public final class LineTest {
    public static void main(String[] args) {
        refused();
        oneStep();
        twoSteps();
        severalNames();
        twentyMinutes();
        lostWithAllBehind();
        lostForGood();
        cantSend();
        whatIsAheadGoesOn();
        ownLocker();
        misread();
        threeHundredMinutes();
        tenShips();
        laterLines();
        Kit.finish();
    }

    private static void due(String call, long got, long want) {
        Kit.due(call, got, want);
    }

    private static void yes(String call, boolean got) {
        Kit.due(call, got, true);
    }

    /** All that along() tells of a SHIP. */
    private static void along(SquadronFlags x, int ship, int names, int minute, int hoists, int lost) {
        due("along(" + ship + ", 0)", x.along(ship, 0), names);
        due("along(" + ship + ", 1)", x.along(ship, 1), minute);
        due("along(" + ship + ", 2)", x.along(ship, 2), hoists);
        due("along(" + ship + ", 3)", x.along(ship, 3), lost);
    }

    private static void heard(SquadronFlags x, int... senses) {
        for (int k = 0; k < senses.length; k++) {
            due("heard(" + k + ")", x.heard(k), senses[k]);
        }
        due("heard no more", x.heard(senses.length), -1);
        due("heard(-1)", x.heard(-1), -1);
        due("heard far above", x.heard(Integer.MAX_VALUE), -1);
    }

    private static void noLine(SquadronFlags x) {
        for (int ship = -1; ship < 11; ship++) {
            along(x, ship, -1, -1, -1, -1);
        }
        heard(x);
    }

    private static void refused() {
        SquadronFlags x = new SquadronFlags();
        noLine(x);
        due("no BOOK", x.line(1, 0), -1);
        Kit.book(x, "sense go is .a;sense stop is .b;");
        due("no MESSAGE", x.line(1, 0), -1);
        due("message", Kit.message(x, "stop"), 1);
        due("last 0", x.line(0, 0), -1);
        due("last 10", x.line(10, 0), -1);
        due("last -1", x.line(-1, 0), -1);
        due("minute -1", x.line(1, -1), -1);
        due("minute 701", x.line(1, 701), -1);
        yes("locker", x.locker(0, 2, 3));
        due("SHIP 0 can't", x.line(1, 0), -1);
        yes("locker", x.locker(0, 0, 3));
        due("another BOOK", Kit.book(x, "sense go is .a;"), 2);
        due("a NAME is none now", x.line(1, 0), -1);
        noLine(x);
        yes("as", x.as(1));
        due("as known at 1", x.line(1, 700), 1);
        along(x, 0, 0, -1, 1, 0);
        along(x, 1, 1, 701, 0, 0);
        along(x, 2, -1, -1, -1, -1);
        along(x, -1, -1, -1, -1, -1);
        due("no such", x.along(0, 4), -1);
        due("no such", x.along(0, -1), -1);
        due("no such", x.along(1, Integer.MIN_VALUE), -1);
        heard(x, 1);
        yes("as", x.as(-1));
        due("refused now", x.line(9, 0), -1);
        along(x, 1, 1, 701, 0, 0);
        along(x, 2, -1, -1, -1, -1);
        heard(x, 1);
        due("nothing was sent by send()", x.sent(0), -1);
    }

    private static final String STOP_GO_STOP = "sense go is .a;sense stop is .bcde;sense go is .ffff;sense stop is .gggg;";

    private static void oneStep() {
        SquadronFlags x = new SquadronFlags();
        Kit.book(x, STOP_GO_STOP);
        due("message", Kit.message(x, "stop go stop"), 3);
        // 0 bend on, 4 READ, 5 bend on, 6 READ, 7 bend on, 11 READ.
        due("line", x.line(1, 0), 3);
        along(x, 0, 0, -1, 3, 0);
        along(x, 1, 3, 11, 0, 0);
        heard(x, 1, 0, 1);
        due("line", x.line(1, 333), 3);
        along(x, 1, 3, 344, 0, 0);
    }

    private static void twoSteps() {
        SquadronFlags x = new SquadronFlags();
        Kit.book(x, STOP_GO_STOP);
        due("message", Kit.message(x, "stop go stop"), 3);
        // SHIP 1: 4 bend on, 8 READ, 9 bend on, 10 READ, 11 bend on, 15 READ.
        due("line", x.line(2, 0), 3);
        along(x, 0, 0, -1, 3, 0);
        along(x, 1, 3, 11, 3, 0);
        along(x, 2, 3, 15, 0, 0);
        heard(x, 1, 0, 1);
    }

    private static void severalNames() {
        SquadronFlags x = new SquadronFlags();
        Kit.book(x, "sense a is .a;sense b is .b;sense c is .c;sense b is .d;");
        due("message", Kit.message(x, "c b a b b"), 5);
        // Two HOISTS: the lesser first HOIST is c alone; then b a b b.
        due("line", x.line(2, 100), 5);
        along(x, 0, 0, -1, 2, 0);
        // 100 bend on, 101 READ; 102 bend on, 106 READ.
        along(x, 1, 5, 106, 2, 0);
        // 101 bend on, 102 READ; 106 bend on, 110 READ.
        along(x, 2, 5, 110, 0, 0);
        heard(x, 2, 1, 0, 1, 1);
    }

    private static void twentyMinutes() {
        SquadronFlags x = new SquadronFlags();
        Kit.book(x, "sense go is .a;sense stop is .b;");
        due("message", Kit.message(x, "go"), 1);
        yes("like", x.like(0, 1, 1));
        yes("haze", x.haze(0, 1));
        yes("clear", x.haze(30, 0));
        // Aloft from 11 to 30.
        due("READ in its 20th minute", x.line(1, 10), 1);
        along(x, 0, 0, -1, 1, 0);
        along(x, 1, 1, 30, 0, 0);
        due("LOST in its 20th minute", x.line(1, 9), 0);
        along(x, 0, 0, -1, 0, 1);
        along(x, 1, 0, -1, 0, 0);
        heard(x);
        yes("clear once", x.haze(31, 1));
        due("one minute is enough", x.line(1, 20), 1);
        along(x, 1, 1, 30, 0, 0);
        due("READ at once", x.line(1, 29), 1);
        along(x, 0, 0, -1, 1, 0);
        along(x, 1, 1, 30, 0, 0);
        due("too late", x.line(1, 30), 0);
        along(x, 0, 0, -1, 0, 1);
        due("another time", x.line(1, 15), 1);
        along(x, 0, 0, -1, 1, 0);
    }

    private static void lostWithAllBehind() {
        SquadronFlags x = new SquadronFlags();
        Kit.book(x, "sense go is .abcd;sense stop is .zbcd;sense turn is .efgh;");
        due("message", Kit.message(x, "turn go turn"), 3);
        yes("like", x.like(0, 25, 1));
        yes("far", x.far(0, 1));
        // turn is READ at 4; go, aloft from 9 to 28, never is; the turn behind it is never bent on.
        due("line", x.line(1, 0), 1);
        along(x, 0, 0, -1, 1, 1);
        along(x, 1, 1, 4, 0, 0);
        heard(x, 2);
        due("line", x.line(2, 0), 1);
        along(x, 0, 0, -1, 1, 1);
        along(x, 1, 1, 4, 1, 0);
        along(x, 2, 1, 8, 0, 0);
    }

    private static void lostForGood() {
        SquadronFlags x = new SquadronFlags();
        yes("like", x.like(1, 25, 1));
        yes("far", x.far(1, 1));
        String twelve = "go go go go go go go go go go go go";
        Kit.book(x, "sense go is .bcde;sense q is .zcde for ship = 1 and minute < 27;");
        due("message", Kit.message(x, twelve), 12);
        // SHIP 1 bends on at 4, has it aloft from 8 to 27; READ at 27, 32 and so on.
        due("line", x.line(2, 0), 12);
        along(x, 0, 0, -1, 12, 0);
        along(x, 1, 12, 59, 12, 0);
        along(x, 2, 12, 82, 0, 0);
        Kit.book(x, "sense go is .bcde;sense q is .zcde for ship = 1 and minute < 28;");
        // LOST at 27; what SHIP 1 READS behind that goes no further.
        due("line", x.line(2, 0), 0);
        along(x, 0, 0, -1, 12, 0);
        along(x, 1, 12, 59, 0, 1);
        along(x, 2, 0, -1, 0, 0);
        heard(x);
        due("a line later, all anew", x.line(2, 100), 12);
        along(x, 0, 0, -1, 12, 0);
        along(x, 1, 12, 159, 12, 0);
        along(x, 2, 12, 163, 0, 0);
    }

    private static void cantSend() {
        SquadronFlags x = new SquadronFlags();
        Kit.book(x, "sense stop is .a;sense go is .bcde;");
        due("message", Kit.message(x, "go stop go"), 3);
        yes("locker", x.locker(1, 1, 3));
        // go at 4, stop at 6, go at 11: the second go is LOST behind the stop.
        due("line", x.line(2, 0), 1);
        along(x, 0, 0, -1, 3, 0);
        along(x, 1, 3, 11, 1, 1);
        along(x, 2, 1, 8, 0, 0);
        heard(x, 1);
        due("the last SHIP needs no FLAGS", x.line(1, 0), 3);
        along(x, 1, 3, 11, 0, 0);
        heard(x, 1, 0, 1);
    }

    private static void whatIsAheadGoesOn() {
        SquadronFlags x = new SquadronFlags();
        Kit.book(x, "sense go is .bcde;sense left is .fghi;sense stop is .a;sense q is .zcde for ship = 1 and minute < 20;");
        due("message", Kit.message(x, "go left stop"), 3);
        yes("like", x.like(1, 25, 1));
        yes("far", x.far(1, 1));
        yes("locker", x.locker(1, 1, 3));
        // SHIP 1 has go aloft from 8, READ at 20; left waits from 9 on, is bent on at 21, READ at 25.
        due("line", x.line(2, 0), 2);
        along(x, 0, 0, -1, 3, 0);
        along(x, 1, 3, 11, 2, 1);
        along(x, 2, 2, 25, 0, 0);
        heard(x, 0, 1);
    }

    private static void ownLocker() {
        SquadronFlags x = new SquadronFlags();
        Kit.book(x, "sense go is .a;sense go is .ccc for ship = 1;sense stop is .b;");
        due("message", Kit.message(x, "go"), 1);
        yes("locker", x.locker(1, 1, 2));
        due("line", x.line(2, 0), 1);
        along(x, 1, 1, 1, 1, 0);
        along(x, 2, 1, 4, 0, 0);
        due("SHIP 2 has it as SHIP 0", x.line(3, 0), 1);
        along(x, 3, 1, 5, 0, 0);
        yes("locker", x.locker(1, 1, 1));
        due("line", x.line(2, 0), 0);
        along(x, 1, 1, 1, 0, 1);
    }

    private static void misread() {
        SquadronFlags x = new SquadronFlags();
        Kit.book(x, "sense go is .a for minute < 5;sense go is .y for ship = 1;sense halt is .c;sense stop is .cc;"
                + "sense stop is .bb for minute > 4;sense halt is .cc for ship = 0;");
        yes("like", x.like(0, 1, 3));
        yes("far", x.far(0, 3));
        due("message", Kit.message(x, "go go"), 2);
        // Sent as a1 at 3, aloft from 5: go is no more a, but b1 would be stop.
        due("line", x.line(1, 3), 1);
        along(x, 0, 0, -1, 1, 0);
        along(x, 1, 1, 5, 0, 0);
        heard(x, 3);
        // SHIP 1 passes the stop on at 5, as b1: c1 is halt halt, too; from 7 on at DIM 0.
        due("line", x.line(2, 3), 1);
        along(x, 1, 1, 5, 1, 0);
        along(x, 2, 1, 7, 0, 0);
        heard(x, 3);
        due("a minute earlier it is neither of the two", x.line(1, 2), 2);
        along(x, 1, 2, 4, 0, 0);
        heard(x, 0, 0);
        yes("nearer", x.far(0, 2));
        due("never READ", x.line(1, 3), 0);
        along(x, 0, 0, -1, 0, 1);
    }

    private static void threeHundredMinutes() {
        for (int late = 0; late < 2; late++) {
            SquadronFlags x = new SquadronFlags();
            Kit.book(x, "sense go is .bcde;sense q is .zcde;");
            due("message", Kit.message(x, "go go go go go go go go go go go go"), 12);
            yes("like", x.like(1, 25, 9));
            yes("haze", x.haze(0, 9));
            int clear = 50 + 22;
            for (int k = 0; k < 13; k++) {
                yes("clear", x.haze(clear, 0));
                yes("haze", x.haze(clear + 1, 9));
                // 23 minutes on each time, 24 the second time, one more at the end for the late one: 299 or 300 in all.
                clear += 23 + (k == 1 ? 1 : 0) + (k == 11 ? late : 0);
            }
            // SHIP 0's are READ at the first 12 clear minutes, SHIP 1's at the 12 behind the first.
            due("line", x.line(2, 50), 12 - late);
            along(x, 0, 0, -1, 12, 0);
            along(x, 1, 12, 50 + 22 + 23 * 11 + 1, 12 - late, 0);
            along(x, 2, 12 - late, late == 0 ? 50 + 299 : 50 + 276, 0, 0);
            // What was aloft at the end of that one is not in the next one.
            yes("clear", x.haze(600, 0));
            due("message", Kit.message(x, "go go"), 2);
            due("line", x.line(3, 600), 2);
            along(x, 0, 0, -1, 2, 0);
            along(x, 1, 2, 609, 2, 0);
            along(x, 2, 2, 613, 2, 0);
            along(x, 3, 2, 617, 0, 0);
        }
    }

    private static void tenShips() {
        SquadronFlags x = new SquadronFlags();
        Kit.book(x, "sense go is .a;");
        due("message", Kit.message(x, "go"), 1);
        due("line", x.line(9, 0), 1);
        for (int ship = 1; ship < 9; ship++) {
            along(x, ship, 1, ship, 1, 0);
        }
        along(x, 9, 1, 9, 0, 0);
        heard(x, 0);
    }

    private static void laterLines() {
        SquadronFlags x = new SquadronFlags();
        Kit.book(x, "sense go is .a;sense stop is .b;");
        due("message", Kit.message(x, "go stop go stop go stop"), 6);
        due("line", x.line(3, 0), 6);
        heard(x, 0, 1, 0, 1, 0, 1);
        due("message", Kit.message(x, "stop"), 1);
        due("line", x.line(1, 0), 1);
        heard(x, 1);
        along(x, 0, 0, -1, 1, 0);
        along(x, 1, 1, 1, 0, 0);
        along(x, 2, -1, -1, -1, -1);
        due("THE BOOK then", Kit.book(x, "sense stop is .b;"), 2);
        heard(x, 1);
    }
}
