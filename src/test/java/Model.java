import java.util.ArrayList;
import java.util.Arrays;
import java.util.Collections;
import java.util.HashSet;
import java.util.List;
import java.util.Set;
import java.util.TreeMap;

/**
 * The document once more, as plainly as the Java library allows: texts, lists and sets, every way tried.
 * ModelTest holds it against the program.
 */
final class Model {
    static final class Fault extends RuntimeException {
        private static final long serialVersionUID = 1L;
        final int what;
        final int place;

        Fault(int what, int place) {
            super(null, null, false, false);
            this.what = what;
            this.place = place;
        }
    }

    /** A TEST as a tree: its word or sign, and its parts. */
    static final class Tree {
        final String sign;
        final Tree left;
        final Tree right;

        Tree(String sign, Tree left, Tree right) {
            this.sign = sign;
            this.left = left;
            this.right = right;
        }
    }

    static final class Sense {
        String name;
        String code;
        Tree test;
    }

    static final class Act {
        List<Sense> book;
        int ship;
        int minute;
        String hoist;
        int voids;
    }

    static final List<String> OWN = Arrays.asList("sense", "is", "for", "or", "and", "not", "all", "ship", "hour",
            "minute", "haze");
    static final int NONE = -1;

    final StringBuilder tape = new StringBuilder();
    final int[] lacks = new int[10];
    final int[] repeaters = {3, 3, 3, 3, 3, 3, 3, 3, 3, 3};
    final TreeMap<Integer, Integer> hazes = new TreeMap<>();
    final int[] farness = new int[9];
    final TreeMap<String, Integer> likes = new TreeMap<>();
    final List<Act> acts = new ArrayList<>();
    int toldAs = NONE;
    int fault = 0;
    int faultPlace = NONE;
    List<String> message = null;
    List<String> sent = null;
    List<Integer> changed = null;
    int last = NONE;
    int[][] along;
    List<Integer> heard = new ArrayList<>();

    // ---- flags

    int feed(int... numbers) {
        if (tape.length() + 20 > 700) {
            return NONE;
        }
        for (int n : numbers) {
            tape.append((char) (n >>> 24)).append((char) (n >>> 16 & 255));
            tape.append((char) (n >>> 8 & 255)).append((char) (n & 255));
        }
        return tape.length();
    }

    boolean end(int n) {
        if (n < 0 || n > tape.length()) {
            return false;
        }
        tape.setLength(n);
        return true;
    }

    boolean locker(int ship, int lack, int have) {
        if (ship < 0 || ship > 9 || lack < 0 || lack > 67108863 || have < 0 || have > 3) {
            return false;
        }
        lacks[ship] = lack;
        repeaters[ship] = have;
        return true;
    }

    String pair(int a, int b) {
        return "" + (char) ('a' + Math.min(a, b)) + (char) ('a' + Math.max(a, b));
    }

    int alikeOthers(int flag) {
        int n = 0;
        for (String key : likes.keySet()) {
            n += key.indexOf('a' + flag) >= 0 ? 1 : 0;
        }
        return n;
    }

    boolean like(int flag, int other, int dim) {
        if (flag < 0 || flag > 25 || other < 0 || other > 25 || flag == other || dim < 0 || dim > 18) {
            return false;
        }
        String key = pair(flag, other);
        if (dim == 0) {
            likes.remove(key);
            return true;
        }
        if (!likes.containsKey(key) && Math.max(alikeOthers(flag), alikeOthers(other)) >= 3) {
            return false;
        }
        likes.put(key, dim);
        return true;
    }

    boolean haze(int minute, int n) {
        if (minute < 0 || minute > 999 || n < 0 || n > 9) {
            return false;
        }
        hazes.put(minute, n);
        return true;
    }

    int hazeAt(int minute) {
        return hazes.floorEntry(minute) == null ? 0 : hazes.floorEntry(minute).getValue();
    }

    boolean far(int ship, int n) {
        if (ship < 0 || ship > 8 || n < 0 || n > 9) {
            return false;
        }
        farness[ship] = n;
        return true;
    }

    int dim(int ship, int minute) {
        return ship < 0 || ship > 8 || minute < 0 || minute > 999 ? NONE : farness[ship] + hazeAt(minute);
    }

    /** Letters as they are, REPEATERS as 1 2 3; null for what is no row of 1 to 4 of them. */
    static String text(int row) {
        if (row < 1 || row >= 32 * 32 * 32 * 32) {
            return null;
        }
        StringBuilder signs = new StringBuilder();
        for (int rest = row; rest > 0; rest /= 32) {
            int sign = rest % 32;
            if (sign < 1 || sign > 29) {
                return null;
            }
            signs.append((char) (sign <= 26 ? 'a' + sign - 1 : '1' + sign - 27));
        }
        return signs.reverse().toString();
    }

    static boolean isLetters(String row) {
        return row != null && row.matches("[a-z]{1,4}");
    }

    static String told(String hoist) {
        if (hoist == null) {
            return null;
        }
        String told = "";
        for (int k = 0; k < hoist.length(); k++) {
            char sign = hoist.charAt(k);
            if (hoist.indexOf(sign) < k) {
                return null;
            }
            if (sign >= 'a') {
                told += sign;
            } else if (sign - '0' <= k) {
                told += told.charAt(sign - '1');
            } else {
                return null;
            }
        }
        return told;
    }

    String hoistFor(int ship, String letters) {
        String hoist = "";
        for (int k = 0; k < letters.length(); k++) {
            char letter = letters.charAt(k);
            String sign = "";
            if ((lacks[ship] & 1 << letter - 'a') == 0 && hoist.indexOf(letter) < 0) {
                sign += letter;
            }
            for (int r = 1; r <= repeaters[ship] && sign.isEmpty(); r++) {
                if (r <= k && hoist.indexOf('0' + r) < 0 && told(hoist).charAt(r - 1) == letter) {
                    sign += r;
                }
            }
            if (sign.isEmpty()) {
                return null;
            }
            hoist += sign;
        }
        return hoist;
    }

    int hoist(int ship, int letters) {
        String row = text(letters);
        if (ship < 0 || ship > 9 || !isLetters(row)) {
            return NONE;
        }
        return hoistFor(ship, row) == null ? NONE : Kit.row(hoistFor(ship, row));
    }

    int tells(int hoist) {
        String told = told(text(hoist));
        return told == null ? NONE : Kit.row(told);
    }

    // ---- the book

    String source;
    int at;
    List<Sense> reading;

    int book() {
        String text = tape.toString();
        tape.setLength(0);
        if (acts.size() == 200) {
            return -2;
        }
        fault = 0;
        faultPlace = NONE;
        source = text;
        at = 0;
        reading = new ArrayList<>();
        try {
            blanks();
            while (at < source.length()) {
                if (reading.size() == 40) {
                    throw new Fault(4, at);
                }
                statement();
                blanks();
            }
        } catch (Fault f) {
            fault = f.what;
            faultPlace = f.place;
            return NONE;
        }
        Act act = new Act();
        act.book = reading;
        acts.add(act);
        return acts.size();
    }

    void blanks() {
        while (at < source.length() && (source.charAt(at) == 10 || source.charAt(at) == 32)) {
            at++;
        }
    }

    /** The longest run of such characters from a place on. */
    String run(int from, String kind) {
        int to = from;
        while (to < source.length() && source.substring(to, to + 1).matches(kind)) {
            to++;
        }
        return source.substring(from, to);
    }

    boolean besideWordy() {
        return at > 0 && source.substring(at - 1, at).matches("[a-z0-9]");
    }

    String wordAhead() {
        blanks();
        return besideWordy() ? "" : run(at, "[a-z]");
    }

    boolean goes(String word) {
        if (!wordAhead().equals(word)) {
            return false;
        }
        at += word.length();
        return true;
    }

    boolean goesSign(char sign) {
        blanks();
        if (at < source.length() && source.charAt(at) == sign) {
            at++;
            return true;
        }
        return false;
    }

    void need(boolean gone) {
        if (!gone) {
            blanks();
            throw new Fault(1, at);
        }
    }

    void statement() {
        Sense sense = new Sense();
        need(goes("sense"));
        sense.name = wordAhead();
        need(!sense.name.isEmpty() && !OWN.contains(sense.name));
        if (sense.name.length() > 6) {
            throw new Fault(1, at + 6);
        }
        int same = 0;
        for (Sense s : reading) {
            same += s.name.equals(sense.name) ? 1 : 0;
        }
        if (same == 6) {
            throw new Fault(2, at);
        }
        at += sense.name.length();
        need(goes("is"));
        need(goesSign('.'));
        sense.code = run(at, "[a-z]");
        if (sense.code.isEmpty()) {
            throw new Fault(1, at);
        }
        if (sense.code.length() > 4) {
            throw new Fault(1, at + 4);
        }
        at += sense.code.length();
        if (goes("for")) {
            sense.test = test(0);
        }
        need(goesSign(';'));
        reading.add(sense);
    }

    Tree test(int open) {
        Tree tree = both(open);
        while (goes("or")) {
            tree = new Tree("or", tree, both(open));
        }
        return tree;
    }

    Tree both(int open) {
        Tree tree = fact(open);
        while (goes("and")) {
            tree = new Tree("and", tree, fact(open));
        }
        return tree;
    }

    void opens(int open, int length) {
        if (open == 6) {
            throw new Fault(3, at - length);
        }
    }

    Tree fact(int open) {
        if (goes("not")) {
            opens(open, 3);
            return new Tree("not", fact(open + 1), null);
        }
        if (goesSign('[')) {
            opens(open, 1);
            Tree tree = test(open + 1);
            need(goesSign(']'));
            return tree;
        }
        if (goes("all")) {
            return new Tree("all", null, null);
        }
        Tree left = sum(open);
        for (char sign : "<>=".toCharArray()) {
            if (goesSign(sign)) {
                return new Tree("" + sign, left, sum(open));
            }
        }
        need(false);
        return null;
    }

    Tree sum(int open) {
        Tree tree = part(open);
        while (true) {
            if (goesSign('+')) {
                tree = new Tree("+", tree, part(open));
            } else if (goesSign('-')) {
                tree = new Tree("-", tree, part(open));
            } else if (goesSign('*')) {
                tree = new Tree("*", tree, part(open));
            } else {
                return tree;
            }
        }
    }

    Tree part(int open) {
        if (goesSign('(')) {
            opens(open, 1);
            Tree tree = sum(open + 1);
            need(goesSign(')'));
            return tree;
        }
        for (String word : Arrays.asList("ship", "hour", "minute", "haze")) {
            if (goes(word)) {
                return new Tree(word, null, null);
            }
        }
        blanks();
        String digits = besideWordy() ? "" : run(at, "[0-9]");
        need(!digits.isEmpty());
        if (digits.length() > 4) {
            throw new Fault(1, at + 4);
        }
        at += digits.length();
        return new Tree(digits, null, null);
    }

    boolean holds(Tree t, int ship, int minute) {
        if (t == null) {
            return true;
        }
        switch (t.sign) {
            case "all":
                return true;
            case "not":
                return !holds(t.left, ship, minute);
            case "and":
                return holds(t.left, ship, minute) && holds(t.right, ship, minute);
            case "or":
                return holds(t.left, ship, minute) || holds(t.right, ship, minute);
            default:
                int order = Long.compare(figure(t.left, ship, minute), figure(t.right, ship, minute));
                return order == "<=>".indexOf(t.sign) - 1;
        }
    }

    long figure(Tree t, int ship, int minute) {
        switch (t.sign) {
            case "ship":
                return ship;
            case "hour":
                return minute / 60;
            case "minute":
                return minute;
            case "haze":
                return hazeAt(minute);
            default:
                if (t.left == null) {
                    return Integer.parseInt(t.sign);
                }
        }
        long a = figure(t.left, ship, minute);
        long b = figure(t.right, ship, minute);
        long n = t.sign.equals("+") ? a + b : t.sign.equals("-") ? a - b : a * b;
        return n > 1000000000L ? 1000000000L : n < -1000000000L ? -1000000000L : n;
    }

    int fault(int what) {
        return what == 0 ? fault : what == 1 ? faultPlace : NONE;
    }

    boolean isKnown(int act, int as) {
        if (act > as) {
            return false;
        }
        for (int later = 1; later <= as; later++) {
            if (acts.get(later - 1).voids == act) {
                return false;
            }
        }
        return true;
    }

    int knownAt() {
        return toldAs == NONE ? acts.size() : toldAs;
    }

    List<Sense> bookAt(int as) {
        List<Sense> book = null;
        for (int act = 1; act <= as; act++) {
            if (acts.get(act - 1).book != null && isKnown(act, as)) {
                book = acts.get(act - 1).book;
            }
        }
        return book;
    }

    List<Sense> known() {
        return bookAt(knownAt());
    }

    int senses() {
        return known() == null ? NONE : known().size();
    }

    int letter(int sense, boolean code, int k) {
        if (known() == null || sense < 0 || sense >= known().size() || k < 0 || k > 5) {
            return NONE;
        }
        String word = code ? known().get(sense).code : known().get(sense).name;
        return k < word.length() ? word.charAt(k) - 'a' + 1 : 0;
    }

    static boolean no(int ship, int minute) {
        return ship < 0 || ship > 9 || minute < 0 || minute > 999;
    }

    int holds(int sense, int ship, int minute) {
        if (known() == null || sense < 0 || sense >= known().size() || no(ship, minute)) {
            return NONE;
        }
        return holds(known().get(sense).test, ship, minute) ? 1 : 0;
    }

    Set<List<String>> readings(List<Sense> book, String letters, int ship, int minute) {
        Set<List<String>> ways = new HashSet<>();
        if (letters.isEmpty()) {
            ways.add(Collections.emptyList());
        }
        for (int part = 1; part <= letters.length(); part++) {
            Set<String> names = new HashSet<>();
            for (Sense s : book) {
                if (s.code.equals(letters.substring(0, part)) && holds(s.test, ship, minute)) {
                    names.add(s.name);
                }
            }
            if (names.isEmpty()) {
                continue;
            }
            for (List<String> rest : readings(book, letters.substring(part), ship, minute)) {
                for (String name : names) {
                    List<String> way = new ArrayList<>();
                    way.add(name);
                    way.addAll(rest);
                    ways.add(way);
                }
            }
        }
        return ways;
    }

    int read(int letters, int ship, int minute) {
        if (known() == null || !isLetters(text(letters)) || no(ship, minute)) {
            return NONE;
        }
        return Math.min(100, readings(known(), text(letters), ship, minute).size());
    }

    // ---- messages

    static boolean hasName(List<Sense> book, String name) {
        return firstOf(book, name) != NONE;
    }

    static int firstOf(List<Sense> book, String name) {
        for (int s = 0; s < book.size(); s++) {
            if (book.get(s).name.equals(name)) {
                return s;
            }
        }
        return NONE;
    }

    int message() {
        String text = tape.toString();
        tape.setLength(0);
        if (known() == null || !text.matches("[ \n]*([a-z]+[ \n]+)*([a-z]+)?")) {
            return NONE;
        }
        List<String> names = new ArrayList<>();
        for (String word : text.split("[ \n]+")) {
            if (!word.isEmpty()) {
                names.add(word);
            }
        }
        for (String name : names) {
            if (!hasName(known(), name)) {
                return NONE;
            }
        }
        if (names.isEmpty() || names.size() > 12) {
            return NONE;
        }
        message = names;
        return names.size();
    }

    static int signs(List<String> hoists) {
        int n = 0;
        for (String hoist : hoists) {
            n += hoist.length();
        }
        return n;
    }

    static boolean better(List<String> a, List<String> b) {
        if (a.size() != b.size()) {
            return a.size() < b.size();
        }
        if (signs(a) != signs(b)) {
            return signs(a) < signs(b);
        }
        for (int i = 0; i < a.size(); i++) {
            if (!a.get(i).equals(b.get(i))) {
                return Kit.row(a.get(i)) < Kit.row(b.get(i));
            }
        }
        return false;
    }

    /** All rows of letters for these NAMES, of 4 letters at most. */
    Set<String> rows(List<Sense> book, List<String> names, int ship, int minute) {
        Set<String> rows = new HashSet<>();
        rows.add("");
        for (String name : names) {
            Set<String> longer = new HashSet<>();
            for (Sense s : book) {
                if (s.name.equals(name) && holds(s.test, ship, minute)) {
                    for (String row : rows) {
                        if (row.length() + s.code.length() <= 4) {
                            longer.add(row + s.code);
                        }
                    }
                }
            }
            rows = longer;
        }
        return rows;
    }

    List<String> plan(List<Sense> book, List<String> names, int ship, int minute) {
        List<List<String>> best = new ArrayList<>(Collections.nCopies(names.size() + 1, null));
        best.set(names.size(), Collections.emptyList());
        for (int from = names.size() - 1; from >= 0; from--) {
            for (int to = from + 1; to <= names.size() && to <= from + 4; to++) {
                if (best.get(to) == null) {
                    continue;
                }
                for (String row : rows(book, names.subList(from, to), ship, minute)) {
                    String hoist = hoistFor(ship, row);
                    if (hoist == null || readings(book, row, ship, minute).size() != 1) {
                        continue;
                    }
                    List<String> way = new ArrayList<>();
                    way.add(hoist);
                    way.addAll(best.get(to));
                    if (best.get(from) == null || better(way, best.get(from))) {
                        best.set(from, way);
                    }
                }
            }
        }
        return best.get(0);
    }

    boolean canAddress() {
        if (known() == null || message == null) {
            return false;
        }
        for (String name : message) {
            if (!hasName(known(), name)) {
                return false;
            }
        }
        return true;
    }

    int send(int ship, int minute) {
        List<String> way = no(ship, minute) || !canAddress() ? null : plan(known(), message, ship, minute);
        if (way == null) {
            return NONE;
        }
        sent = way;
        return way.size();
    }

    int sent(int k) {
        return sent == null || k < 0 || k >= sent.size() ? NONE : Kit.row(sent.get(k));
    }

    Set<String> seen(String hoist, int dim) {
        Set<String> all = new HashSet<>();
        all.add("");
        for (char sign : hoist.toCharArray()) {
            Set<String> longer = new HashSet<>();
            for (String one : all) {
                longer.add(one + sign);
                for (int other = 0; other < 26 && sign >= 'a'; other++) {
                    Integer from = sign - 'a' == other ? null : likes.get(pair(sign - 'a', other));
                    if (from != null && from <= dim) {
                        longer.add(one + (char) ('a' + other));
                    }
                }
            }
            all = longer;
        }
        return all;
    }

    Set<List<String>> mays(List<Sense> book, String hoist, int dim, int ship, int minute) {
        Set<List<String>> ways = new HashSet<>();
        for (String one : seen(hoist, dim)) {
            if (told(one) != null) {
                ways.addAll(readings(book, told(one), ship, minute));
            }
        }
        return ways;
    }

    int may(int hoist, int dim, int ship, int minute) {
        if (known() == null || told(text(hoist)) == null || dim < 0 || dim > 18 || no(ship, minute)) {
            return NONE;
        }
        return Math.min(100, mays(known(), text(hoist), dim, ship, minute).size());
    }

    // ---- the line

    int line(int lastShip, int start) {
        if (lastShip < 1 || lastShip > 9 || start < 0 || start > 700 || !canAddress()) {
            return NONE;
        }
        List<Sense> book = known();
        List<String> first = plan(book, message, 0, start);
        if (first == null) {
            return NONE;
        }
        last = lastShip;
        along = new int[10][4];
        heard = new ArrayList<>();
        List<List<String>> queues = new ArrayList<>();
        String[] aloft = new String[10];
        int[] bent = new int[10];
        boolean[] mute = new boolean[10];
        for (int s = 0; s < 10; s++) {
            queues.add(new ArrayList<>());
            along[s][1] = NONE;
        }
        queues.get(0).addAll(first);
        for (int t = start; t < start + 300; t++) {
            for (int s = 0; s < lastShip; s++) {
                if (aloft[s] == null) {
                    if (!queues.get(s).isEmpty()) {
                        aloft[s] = queues.get(s).remove(0);
                        bent[s] = t;
                    }
                    continue;
                }
                int age = t - bent[s] - aloft[s].length() + 1;
                if (age < 1) {
                    continue;
                }
                Set<List<String>> ways = mays(book, aloft[s], dim(s, t), s, t);
                if (ways.size() == 1) {
                    List<String> names = ways.iterator().next();
                    aloft[s] = null;
                    along[s][2]++;
                    along[s + 1][0] += names.size();
                    along[s + 1][1] = t;
                    if (s + 1 == lastShip) {
                        for (String name : names) {
                            heard.add(firstOf(book, name));
                        }
                        continue;
                    }
                    List<String> way = mute[s + 1] ? null : plan(book, names, s + 1, t);
                    if (way == null) {
                        mute[s + 1] = true;
                        along[s + 1][3] = 1;
                    } else {
                        queues.get(s + 1).addAll(way);
                    }
                } else if (age == 20) {
                    aloft[s] = null;
                    queues.get(s).clear();
                    mute[s] = true;
                    along[s][3] = 1;
                }
            }
        }
        return along[lastShip][0];
    }

    int along(int ship, int what) {
        return ship < 0 || ship > last || what < 0 || what > 3 ? NONE : along[ship][what];
    }

    int heard(int k) {
        return k < 0 || k >= heard.size() ? NONE : heard.get(k);
    }

    // ---- acts, the other side

    int flown(int ship, int minute, int hoist) {
        if (no(ship, minute) || told(text(hoist)) == null || acts.size() == 200) {
            return NONE;
        }
        Act act = new Act();
        act.ship = ship;
        act.minute = minute;
        act.hoist = text(hoist);
        acts.add(act);
        return acts.size();
    }

    int annul(int act) {
        if (act < 1 || act > acts.size() || acts.get(act - 1).voids != 0 || !isKnown(act, acts.size())
                || acts.size() == 200) {
            return NONE;
        }
        Act made = new Act();
        made.voids = act;
        acts.add(made);
        return acts.size();
    }

    boolean as(int act) {
        if (act < -1 || act > acts.size()) {
            return false;
        }
        toldAs = act;
        return true;
    }

    boolean isFlown(int act) {
        return act >= 1 && act <= acts.size() && acts.get(act - 1).hoist != null && isKnown(act, knownAt());
    }

    int taken(int act, int book) {
        if (!isFlown(act) || book < 0 || book > acts.size()) {
            return NONE;
        }
        List<Sense> his = bookAt(book);
        Act flown = acts.get(act - 1);
        if (his == null || known() == null) {
            return 0;
        }
        Set<List<String>> ours = readings(known(), told(flown.hoist), flown.ship, flown.minute);
        Set<List<String>> theirs = readings(his, told(flown.hoist), flown.ship, flown.minute);
        return ours.size() != 1 || theirs.size() != 1 ? 0 : ours.equals(theirs) ? 2 : 1;
    }

    /** Each cut of a row as its parts. */
    static List<List<String>> cuts(String row) {
        List<List<String>> all = new ArrayList<>();
        if (row.isEmpty()) {
            all.add(Collections.emptyList());
        }
        for (int part = 1; part <= row.length(); part++) {
            for (List<String> rest : cuts(row.substring(part))) {
                List<String> cut = new ArrayList<>();
                cut.add(row.substring(0, part));
                cut.addAll(rest);
                all.add(cut);
            }
        }
        return all;
    }

    /** For each cut in which we READ what he READS: the SENSES of each part. */
    List<List<Set<Integer>>> wanted(int book) {
        List<List<Set<Integer>>> wanted = new ArrayList<>();
        for (int act = 1; act <= acts.size(); act++) {
            if (taken(act, book) != 2) {
                continue;
            }
            Act flown = acts.get(act - 1);
            for (List<String> cut : cuts(told(flown.hoist))) {
                List<Set<Integer>> parts = new ArrayList<>();
                for (String part : cut) {
                    Set<Integer> set = new HashSet<>();
                    for (int s = 0; s < known().size(); s++) {
                        Sense sense = known().get(s);
                        if (sense.code.equals(part) && holds(sense.test, flown.ship, flown.minute)) {
                            set.add(s);
                        }
                    }
                    parts.add(set);
                }
                if (!parts.contains(Collections.<Integer>emptySet())) {
                    wanted.add(parts);
                }
            }
        }
        return wanted;
    }

    static boolean does(List<List<Set<Integer>>> wanted, List<Integer> senses) {
        for (List<Set<Integer>> parts : wanted) {
            boolean one = false;
            for (Set<Integer> part : parts) {
                one |= senses.containsAll(part);
            }
            if (!one) {
                return false;
            }
        }
        return true;
    }

    static List<Integer> firstOfSize(List<List<Set<Integer>>> wanted, List<Integer> chosen, int size, int senses) {
        if (chosen.size() == size) {
            return does(wanted, chosen) ? chosen : null;
        }
        int from = chosen.isEmpty() ? 0 : chosen.get(chosen.size() - 1) + 1;
        for (int s = from; s < senses; s++) {
            List<Integer> more = new ArrayList<>(chosen);
            more.add(s);
            List<Integer> found = firstOfSize(wanted, more, size, senses);
            if (found != null) {
                return found;
            }
        }
        return null;
    }

    int change(int book) {
        if (book < 0 || book > acts.size()) {
            return NONE;
        }
        List<List<Set<Integer>>> wanted = wanted(book);
        for (int size = 0; size <= 4; size++) {
            List<Integer> found = firstOfSize(wanted, new ArrayList<>(), size, Math.max(0, senses()));
            if (found != null) {
                changed = found;
                return size;
            }
        }
        return NONE;
    }

    int changed(int k) {
        return changed == null || k < 0 || k >= changed.size() ? NONE : changed.get(k);
    }

    int all(int what) {
        switch (what) {
            case 0:
                return acts.size();
            case 1:
                return knownAt();
            case 2:
                return message == null ? 0 : message.size();
            case 3:
                int n = 0;
                for (int act = 1; act <= acts.size(); act++) {
                    n += isFlown(act) ? 1 : 0;
                }
                return n;
            default:
                return NONE;
        }
    }
}
