import java.util.ArrayDeque;
import java.util.ArrayList;
import java.util.Arrays;
import java.util.Deque;
import java.util.HashMap;
import java.util.List;
import java.util.Map;
import java.util.Set;
import java.util.TreeSet;

/**
 * Texts grown from the grammar of THE BOOK, many of them spoilt. The FAULT that is due is found without reading
 * downwards as the program and Model do: a chart keeps, token by token, all that may stand next.
 */
public final class GrammarTest {
    private static final int TEXTS = 6000;

    // Ahead the rule's name, then what it is made of. What is no rule's name is a token.
    private static final String[][] RULES = {
        {"Statement", "sense", "NAME", "is", "CODE", ";"},
        {"Statement", "sense", "NAME", "is", "CODE", "for", "Test", ";"},
        {"Test", "Both"}, {"Test", "Test", "or", "Both"},
        {"Both", "Fact"}, {"Both", "Both", "and", "Fact"},
        {"Fact", "all"}, {"Fact", "Sum", "<", "Sum"}, {"Fact", "Sum", ">", "Sum"}, {"Fact", "Sum", "=", "Sum"},
        {"Fact", "not", "Fact"}, {"Fact", "[", "Test", "]"},
        {"Sum", "Part"}, {"Sum", "Sum", "+", "Part"}, {"Sum", "Sum", "-", "Part"}, {"Sum", "Sum", "*", "Part"},
        {"Part", "NUMBER"}, {"Part", "ship"}, {"Part", "hour"}, {"Part", "minute"}, {"Part", "haze"},
        {"Part", "(", "Sum", ")"}
    };
    private static final List<String> OWN = Arrays.asList("sense", "is", "for", "or", "and", "not", "all", "ship",
            "hour", "minute", "haze");
    private static final String[] STRAY = {
        "x", "abcdef", "abcdefg", "minutes", "1", "12345", ".a", ".abcd", ".abcde", ".", "%", "A", "\u00ff", "\t",
        "notall", "sense", "is", "for", "or", "and", "not", "all", "ship", "(", ")", "[", "]", ";", "<", "=", "+"
    };
    private static final String[] MANY_NAMES = {"x", "y", "z", "q", "w", "e", "r", "t", "aa", "ab", "ac", "ad", "ae"};
    private static final String[] SOME_NAMES = {"x", "yy", "abcdef", "i", "sens", "fort", "w", "e"};
    private static final String[] TWO_NAMES = {"x", "go"};
    private static final String[] CODES = {".a", ".b", ".ab", ".zzz", ".abcd", ".for"};
    private static final String[] OPENERS = {"not", "(", "["};

    /** What stands in a text from a place on; bad where a blank is missing ahead of it. */
    private static final class Token {
        char kind;
        int start;
        String text;
        boolean bad;
    }

    private long seed = 40961;
    private String[] names;
    private String[] codes;

    // The FAULT due of the text charted last.
    private int fault;
    private int place;
    private int statements;

    public static void main(String[] args) {
        GrammarTest test = new GrammarTest();
        int[] seen = new int[5];
        for (int t = 0; t < TEXTS; t++) {
            String text = test.someText();
            test.chart(text);
            seen[test.fault]++;
            hold(text, test.fault, test.place, test.statements);
        }
        for (int f = 0; f < seen.length; f++) {
            Kit.due("texts with fault " + f + " in plenty: " + seen[f], seen[f] > 40, true);
        }
        Kit.finish();
    }

    private static void hold(String text, int fault, int place, int statements) {
        SquadronFlags x = new SquadronFlags();
        Kit.due("book() of " + text, Kit.book(x, text), fault == 0 ? 1 : SquadronFlags.NONE);
        Kit.due("fault(0) of " + text, x.fault(0), fault);
        Kit.due("fault(1) of " + text, x.fault(1), fault == 0 ? SquadronFlags.NONE : place);
        Kit.due("senses() of " + text, x.senses(), fault == 0 ? statements : SquadronFlags.NONE);
    }

    // ---- the fault that is due

    private static boolean isAmong(char c, char least, char most) {
        return c >= least && c <= most;
    }

    private static int runEnd(String text, int from, char least, char most) {
        int end = from;
        while (end < text.length() && isAmong(text.charAt(end), least, most)) {
            end++;
        }
        return end;
    }

    private static List<Token> tokens(String text) {
        List<Token> tokens = new ArrayList<>();
        int at = 0;
        while (at < text.length()) {
            char c = text.charAt(at);
            if (c == ' ' || c == '\n') {
                at++;
                continue;
            }
            Token token = new Token();
            boolean word = isAmong(c, 'a', 'z');
            boolean number = isAmong(c, '0', '9');
            token.kind = word ? 'w' : number ? 'n' : c == '.' ? 'c' : 's';
            token.start = at;
            token.bad = (word || number) && at > 0 && Character.toString(text.charAt(at - 1)).matches("[a-z0-9]");
            int end = number ? runEnd(text, at, '0', '9') : runEnd(text, word ? at : at + 1, 'a', 'z');
            token.text = text.substring(at, token.kind == 's' ? at + 1 : end);
            at += token.text.length();
            tokens.add(token);
        }
        return tokens;
    }

    private static boolean fits(Token token, String wanted) {
        if (token.bad) {
            return false;
        }
        switch (wanted) {
            case "NAME":
                return token.kind == 'w' && token.text.length() <= 6 && !OWN.contains(token.text);
            case "NUMBER":
                return token.kind == 'n' && token.text.length() <= 4;
            case "CODE":
                return token.kind == 'c' && token.text.length() >= 2 && token.text.length() <= 5;
            default:
                return token.text.equals(wanted);
        }
    }

    /** Where the byte is with which no BOOK goes on, in a token that fits nothing that is wanted. */
    private static int wrongByte(Token token, Set<String> wanted) {
        int length = token.text.length();
        if (!token.bad && token.kind == 'w' && wanted.contains("NAME") && length > 6) {
            return token.start + 6;
        }
        if (!token.bad && token.kind == 'n' && wanted.contains("NUMBER") && length > 4) {
            return token.start + 4;
        }
        if (token.kind == 'c' && wanted.contains("CODE")) {
            return token.start + (length == 1 ? 1 : 5);
        }
        return token.start;
    }

    private void blame(int what, int where) {
        fault = what;
        place = where;
    }

    private void chart(String text) {
        Map<String, Integer> named = new HashMap<>();
        Deque<String> open = new ArrayDeque<>();
        List<Set<Integer>> columns = startOfStatement();
        blame(0, SquadronFlags.NONE);
        statements = 0;
        for (Token token : tokens(text)) {
            Set<String> wanted = wanted(columns.get(columns.size() - 1));
            if (columns.size() == 1 && statements == 40) {
                blame(4, token.start);
                return;
            }
            if (!step(columns, token)) {
                blame(1, wrongByte(token, wanted));
                return;
            }
            if (wanted.contains("NAME") && named.merge(token.text, 1, Integer::sum) > 6) {
                blame(2, token.start);
                return;
            }
            if (opensTooMany(open, token.text)) {
                blame(3, token.start);
                return;
            }
            if (token.text.equals(";")) {
                statements++;
                columns = startOfStatement();
            }
        }
        if (columns.size() > 1) {
            blame(1, text.length());
        }
    }

    /** Keeps what is open behind a token; a FACT ends ahead of and, or, ] and ; so each not of it does. */
    private static boolean opensTooMany(Deque<String> open, String token) {
        if (Arrays.asList("and", "or", "]", ";").contains(token)) {
            while ("not".equals(open.peek())) {
                open.pop();
            }
        }
        if (token.equals("]") || token.equals(")")) {
            open.pop();
        }
        if (Arrays.asList(OPENERS).contains(token)) {
            open.push(token);
        }
        return open.size() > 6;
    }

    // ---- the chart: in each column the rules begun, each as rule * 16 + (parts behind), and the column it began in

    private static List<Set<Integer>> startOfStatement() {
        List<Set<Integer>> columns = new ArrayList<>();
        columns.add(new TreeSet<>());
        begin(columns, "Statement");
        return columns;
    }

    private static int item(int rule, int parts, int from) {
        return (rule * 16 + parts) * 1024 + from;
    }

    private static String next(int item) {
        String[] rule = RULES[item / 1024 / 16];
        int part = item / 1024 % 16 + 1;
        return part < rule.length ? rule[part] : null;
    }

    private static Set<String> wanted(Set<Integer> column) {
        Set<String> wanted = new TreeSet<>();
        for (int item : column) {
            if (next(item) != null) {
                wanted.add(next(item));
            }
        }
        return wanted;
    }

    private static void begin(List<Set<Integer>> columns, String name) {
        for (int rule = 0; rule < RULES.length; rule++) {
            if (RULES[rule][0].equals(name)) {
                add(columns, item(rule, 0, columns.size() - 1));
            }
        }
    }

    private static void add(List<Set<Integer>> columns, int item) {
        if (!columns.get(columns.size() - 1).add(item)) {
            return;
        }
        if (next(item) != null) {
            begin(columns, next(item));
            return;
        }
        String name = RULES[item / 1024 / 16][0];
        for (int waiting : new ArrayList<>(columns.get(item % 1024))) {
            if (name.equals(next(waiting))) {
                add(columns, waiting + 1024);
            }
        }
    }

    /** Goes on by a token; false when nothing that is wanted fits it. */
    private static boolean step(List<Set<Integer>> columns, Token token) {
        Set<Integer> before = columns.get(columns.size() - 1);
        columns.add(new TreeSet<>());
        for (int item : before) {
            if (next(item) != null && fits(token, next(item))) {
                add(columns, item + 1024);
            }
        }
        return !columns.get(columns.size() - 1).isEmpty();
    }

    // ---- texts

    private int below(int n) {
        seed = seed * 6364136223846793005L + 1442695040888963407L;
        return (int) ((seed >>> 33) % n);
    }

    private String one(String... of) {
        return of[below(of.length)];
    }

    private String word(String token) {
        switch (token) {
            case "NAME":
                return one(names);
            case "NUMBER":
                return one("0", "7", "12", "0123", "9999");
            case "CODE":
                return one(codes);
            default:
                return token;
        }
    }

    /** Grows a rule; without room left by its first way, which grows no further. */
    private void grow(List<String> text, String name, int room) {
        List<String[]> ways = new ArrayList<>();
        for (String[] rule : RULES) {
            if (rule[0].equals(name)) {
                ways.add(rule);
            }
        }
        if (ways.isEmpty()) {
            text.add(word(name));
            return;
        }
        boolean deeper = below(4) > 0 && (name.equals("Fact") || name.equals("Part"));
        String[] way = ways.get(room <= 0 ? 0 : deeper ? ways.size() - 1 - below(2) : below(ways.size()));
        for (int part = 1; part < way.length; part++) {
            grow(text, way[part], room - 1);
        }
    }

    private void spoil(List<String> text) {
        int at = below(text.size());
        switch (below(5)) {
            case 0:
                text.remove(at);
                break;
            case 1:
                text.set(at, one(STRAY));
                break;
            case 2:
                text.add(at, one(STRAY));
                break;
            case 3:
                text.set(at, text.get(at) + one("a", "7", "abcd", "1234"));
                break;
            default:
                for (int n = 1 + below(8); n > 0; n--) {
                    text.add(at, one(OPENERS));
                }
                break;
        }
    }

    private String someText() {
        boolean many = below(5) == 0;
        names = many ? MANY_NAMES : below(2) == 0 ? SOME_NAMES : TWO_NAMES;
        codes = many ? new String[] {".a", ".b"} : CODES;
        List<String> text = new ArrayList<>();
        for (int n = many ? 40 + below(3) : 1 + below(9); n > 0; n--) {
            grow(text, "Statement", many ? 0 : below(20));
        }
        for (int n = below(many ? 2 : 3); n > 0; n--) {
            spoil(text);
        }
        String joined = joined(text, many);
        int end = Math.min(700, joined.length());
        return joined.substring(0, below(8) == 0 ? below(end + 1) : end);
    }

    /** The tokens side by side, now and then without a blank that they need. */
    private String joined(List<String> text, boolean tight) {
        StringBuilder joined = new StringBuilder();
        for (String token : text) {
            String sides = (joined.length() > 0 ? joined.charAt(joined.length() - 1) : '.') + token.substring(0, 1);
            if (sides.matches("[a-z0-9]{2}") && below(200) > 0) {
                joined.append(one(" ", "\n"));
            } else if (!tight) {
                joined.append(one("", "", " ", "\n "));
            }
            joined.append(token);
        }
        return joined.toString();
    }
}
