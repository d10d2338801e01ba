/** Runs of calls made by a fixed row of numbers, each answer held against the model's. */
public final class ModelTest {
    private static final int RUNS = 3000;

    // An object is promised for 512 calls, and what is done at one time may take some 110 of them.
    private static final int MOST_CALLS = 512;
    private static final int CALLS_AT_ONCE = 110;
    private static final String[] NAMES = {"go", "stop", "turn", "a", "ab", "fire", "wait", "minutx"};
    private static final String[] PARTS = {"ship", "hour", "minute", "haze", "0", "1", "2", "60", "9999", "0007"};

    private long seed;
    private SquadronFlags x;
    private Model m;
    private int letters;
    private int names;
    private int calls;
    private String label;

    public static void main(String[] args) {
        ModelTest test = new ModelTest();
        for (int run = 0; run < RUNS; run++) {
            test.run(run);
        }
        Kit.finish();
    }

    private int below(int n) {
        seed = seed * 6364136223846793005L + 1442695040888963407L;
        return (int) ((seed >>> 33) % n);
    }

    /** Mostly what can be, now and then something beside it. */
    private int near(int from, int to) {
        switch (below(100)) {
            case 0:
            case 1:
                return from - 1;
            case 2:
            case 3:
                return to + 1;
            case 4:
                return Integer.MIN_VALUE;
            case 5:
                return Integer.MAX_VALUE;
            default:
                break;
        }
        return from + below(to - from + 1);
    }

    private void run(int run) {
        seed = run * 7919L + 17;
        below(2);
        x = new SquadronFlags();
        m = new Model();
        letters = 2 + below(4);
        names = 2 + below(NAMES.length - 1);
        label = "run " + run + ": ";
        calls = 0;
        writeBook(false);
        for (int c = below(12); c > 0 && calls < MOST_CALLS / 2; c--) {
            call(1 + below(12));
        }
        while (calls < MOST_CALLS - CALLS_AT_ONCE) {
            call(below(26));
        }
        askAll();
        Kit.due(label + "calls in all", calls <= MOST_CALLS, true);
    }

    private void call(int kind) {
        switch (kind) {
            case 0:
                writeBook(below(3) == 0);
                break;
            case 1:
            case 2:
            case 3:
                writeMessage();
                break;
            case 4:
                int ship = near(0, 9);
                int lacks = below(12) == 0 ? 67108864 - below(3) : below(2) * below(1 << letters);
                int have = near(0, 3);
                due("locker", x.locker(ship, lacks, have), m.locker(ship, lacks, have));
                break;
            case 5:
            case 6:
                like();
                break;
            case 7:
                int minute = near(0, 999);
                int haze = near(0, 9);
                due("haze", x.haze(minute, haze), m.haze(minute, haze));
                break;
            case 8:
                int s = near(0, 8);
                int n = near(0, 9);
                due("far", x.far(s, n), m.far(s, n));
                break;
            case 9:
            case 10:
                flown();
                break;
            case 11:
                int act = below(m.acts.size() + 2);
                due("annul(" + act + ")", x.annul(act), m.annul(act));
                break;
            case 12:
                int as = below(4) == 0 ? near(-1, m.acts.size()) : -1;
                due("as(" + as + ")", x.as(as), m.as(as));
                break;
            case 13:
            case 14:
                askFlags();
                break;
            case 15:
            case 16:
                askBook();
                break;
            case 17:
            case 18:
            case 19:
                askMessage();
                break;
            case 20:
            case 21:
            case 22:
                askLine();
                break;
            case 23:
            case 24:
                askOtherSide();
                break;
            default:
                askAll();
                break;
        }
    }

    private void due(String call, int got, int want) {
        calls++;
        Kit.due(label + call, got, want);
    }

    private void due(String call, boolean got, boolean want) {
        calls++;
        Kit.due(label + call, got, want);
    }

    private void lay(String text) {
        for (int from = 0; from < text.length(); from += 20) {
            int[] n = Kit.piece(text, from);
            due("feed", x.feed(n[0], n[1], n[2], n[3], n[4]), m.feed(n));
        }
        int end = text.length();
        due("end(" + end + ")", x.end(end), m.end(end));
    }

    private void like() {
        int flag = below(20) == 0 ? near(0, 25) : below(letters + 1);
        int other = below(20) == 0 ? near(0, 25) : below(letters + 1);
        int dim = below(6) == 0 ? 0 : near(0, 18);
        due("like(" + flag + ", " + other + ", " + dim + ")", x.like(flag, other, dim), m.like(flag, other, dim));
    }

    private char aLetter() {
        return (char) ('a' + below(letters));
    }

    private int aHoist() {
        if (below(12) == 0) {
            return below(1 << 21) - 1000;
        }
        String signs = "" + aLetter();
        int length = 1 + below(4);
        for (int k = 1; k < length; k++) {
            signs += below(4) == 0 ? (char) ('1' + below(3)) : aLetter();
        }
        return Kit.row(signs);
    }

    private int someLetters() {
        if (below(12) == 0) {
            return below(1 << 21) - 1000;
        }
        String row = "";
        int length = 1 + below(4);
        for (int k = 0; k < length; k++) {
            row += aLetter();
        }
        return Kit.row(row);
    }

    private int aMinute() {
        return below(20) == 0 ? near(0, 999) : below(3) * 60 + below(4);
    }

    private String blank() {
        return below(4) == 0 ? "" : below(8) == 0 ? "\n " : " ";
    }

    private String part(int depth) {
        if (depth > 0 && below(6) == 0) {
            return "(" + blank() + sum(depth - 1) + blank() + ")";
        }
        return PARTS[below(PARTS.length)];
    }

    private String sum(int depth) {
        String text = part(depth);
        for (int i = below(3); i > 0; i--) {
            text += blank() + "+-*".charAt(below(3)) + blank() + part(depth);
        }
        return text;
    }

    private String fact(int depth) {
        int kind = below(8);
        if (kind == 0) {
            return "all";
        }
        if (kind == 1 && depth > 0) {
            return "not " + blank() + fact(depth - 1);
        }
        if (kind == 2 && depth > 0) {
            return "[" + blank() + test(depth - 1) + blank() + "]";
        }
        return sum(depth) + blank() + "<>=".charAt(below(3)) + blank() + sum(depth);
    }

    private String test(int depth) {
        String text = fact(depth);
        for (int i = below(5) / 2; i > 0; i--) {
            text += (below(2) == 0 ? " and " : " or ") + fact(depth);
        }
        return text;
    }

    private String statement() {
        String code = "";
        for (int k = 1 + below(6) / 2; k > 0; k--) {
            code += aLetter();
        }
        String text = "sense " + NAMES[below(names)] + " is" + blank() + "." + code;
        if (below(3) == 0) {
            text += " for " + test(below(12) == 0 ? 9 : 2);
        }
        return text + blank() + ";" + blank();
    }

    private String bookText() {
        StringBuilder text = new StringBuilder();
        int senses = below(30) == 0 ? 48 : 1 + below(12);
        for (int s = 0; s < senses; s++) {
            String more = senses == 48 ? "sense " + (char) ('a' + s / 5) + "x is .a;" : statement();
            if (text.length() + more.length() <= 700) {
                text.append(more);
            }
        }
        return text.toString();
    }

    /** A text with one byte changed, put in or left out. */
    private String spoilt(String text) {
        int at = below(text.length());
        String signs = "a9;.([)] <+x7\n=s\u00e9Z";
        String more = "" + signs.charAt(below(signs.length()));
        switch (below(4)) {
            case 0:
                return text.substring(0, at);
            case 1:
                return text.substring(0, at) + text.substring(at + 1);
            case 2:
                return text.substring(0, at) + more + text.substring(at + 1);
            default:
                return text.length() < 700 ? text.substring(0, at) + more + text.substring(at) : text;
        }
    }

    private void writeBook(boolean spoil) {
        String text = bookText();
        int tries = spoil ? 2 : 1;
        for (int i = 0; i < tries; i++) {
            lay(spoil ? spoilt(text) : text);
            due("book()", x.book(), m.book());
            due("fault(0)", x.fault(0), m.fault(0));
            due("fault(1)", x.fault(1), m.fault(1));
        }
    }

    private void writeMessage() {
        String text = "";
        for (int i = below(10) == 0 ? 13 : below(8); i >= 0; i--) {
            text += (below(40) == 0 ? "nix" : NAMES[below(names)]) + (below(5) == 0 ? "\n " : " ");
        }
        if (below(20) == 0) {
            text = spoilt(text);
        }
        lay(text);
        due("message()", x.message(), m.message());
        due("all(2)", x.all(2), m.all(2));
    }

    private void flown() {
        for (int i = 0; i < 6; i++) {
            int ship = below(20) == 0 ? near(0, 9) : below(3);
            int minute = aMinute();
            int hoist = aHoist();
            due("flown", x.flown(ship, minute, hoist), m.flown(ship, minute, hoist));
        }
    }

    private void askFlags() {
        for (int i = 0; i < 10; i++) {
            int ship = near(0, 9);
            int minute = near(0, 999);
            int row = someLetters();
            int hoist = aHoist();
            due("dim(" + ship + ", " + minute + ")", x.dim(ship, minute), m.dim(ship, minute));
            due("hoist(" + ship + ", " + row + ")", x.hoist(ship, row), m.hoist(ship, row));
            due("tells(" + hoist + ")", x.tells(hoist), m.tells(hoist));
        }
    }

    private void askBook() {
        due("senses()", x.senses(), m.senses());
        for (int i = 0; i < 8; i++) {
            int sense = near(0, Math.max(0, m.senses() - 1));
            int k = near(0, 5);
            int ship = near(0, 9);
            int minute = aMinute();
            int row = someLetters();
            due("letter", x.letter(sense, true, k), m.letter(sense, true, k));
            due("letter", x.letter(sense, false, k), m.letter(sense, false, k));
            due("holds", x.holds(sense, ship, minute), m.holds(sense, ship, minute));
            due("read(" + row + ")", x.read(row, ship, minute), m.read(row, ship, minute));
        }
    }

    private void askMessage() {
        for (int i = 0; i < 3; i++) {
            int ship = near(0, 9);
            int minute = aMinute();
            due("send(" + ship + ", " + minute + ")", x.send(ship, minute), m.send(ship, minute));
            for (int k = -1; k < 13; k++) {
                due("sent(" + k + ")", x.sent(k), m.sent(k));
            }
            int hoist = aHoist();
            int dim = near(0, 18);
            due("may(" + hoist + ", " + dim + ")", x.may(hoist, dim, ship, minute), m.may(hoist, dim, ship, minute));
        }
    }

    private void askLine() {
        int last = below(3) == 0 ? near(1, 9) : 1 + below(3);
        int start = below(3) == 0 ? near(0, 700) : below(150);
        due("line(" + last + ", " + start + ")", x.line(last, start), m.line(last, start));
        for (int ship = 0; ship <= m.last; ship++) {
            for (int what = 0; what < 4; what++) {
                due("along(" + ship + ", " + what + ")", x.along(ship, what), m.along(ship, what));
            }
        }
        for (int i = 0; i < 3; i++) {
            int ship = near(0, 9);
            int what = near(0, 3);
            due("along(" + ship + ", " + what + ")", x.along(ship, what), m.along(ship, what));
        }
        for (int k = -1; k <= m.heard.size() && k < 30; k++) {
            due("heard(" + k + ")", x.heard(k), m.heard(k));
        }
    }

    private void askOtherSide() {
        int book = below(4) == 0 ? near(0, m.acts.size()) : below(m.acts.size() + 1);
        int first = below(m.acts.size() + 1);
        for (int act = first; act < m.acts.size() + 2 && act < first + 40; act++) {
            due("taken(" + act + ", " + book + ")", x.taken(act, book), m.taken(act, book));
        }
        due("change(" + book + ")", x.change(book), m.change(book));
        for (int k = -1; k < 6; k++) {
            due("changed(" + k + ")", x.changed(k), m.changed(k));
        }
    }

    private void askAll() {
        for (int what = -1; what < 5; what++) {
            due("all(" + what + ")", x.all(what), m.all(what));
        }
    }
}
