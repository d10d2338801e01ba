/** What the tests share: counting wrong answers, and laying texts on the tape. */
final class Kit {
    private static int wrong = 0;
    private static int asked = 0;

    private Kit() {
    }

    static void due(String call, long got, long want) {
        asked++;
        if (got != want) {
            wrong++;
            if (wrong <= 40) {
                System.out.println(call + " answered " + got + ", due is " + want);
            }
        }
    }

    static void due(String call, boolean got, boolean want) {
        due(call, got ? 1 : 0, want ? 1 : 0);
    }

    static void finish() {
        System.out.println(wrong == 0 ? asked + " answers as due" : wrong + " of " + asked + " answers are wrong");
        if (wrong != 0) {
            System.exit(1);
        }
    }

    /** The five numbers of a feed() that lays 20 bytes of a text from a place on, blanks behind its end. */
    static int[] piece(String text, int from) {
        int[] numbers = new int[5];
        for (int i = 0; i < 20; i++) {
            int b = from + i < text.length() ? text.charAt(from + i) : ' ';
            numbers[i / 4] = numbers[i / 4] << 8 | b & 255;
        }
        return numbers;
    }

    /** Lays a text on an empty tape. */
    static void tape(SquadronFlags x, String text) {
        x.end(0);
        for (int from = 0; from < text.length(); from += 20) {
            int[] n = piece(text, from);
            x.feed(n[0], n[1], n[2], n[3], n[4]);
        }
        due("end(" + text.length() + ")", x.end(text.length()), true);
    }

    static int book(SquadronFlags x, String text) {
        tape(x, text);
        return x.book();
    }

    static int message(SquadronFlags x, String text) {
        tape(x, text);
        return x.message();
    }

    /** A row of letters, or a HOIST with REPEATERS 1 2 3, as its number. */
    static int row(String signs) {
        int row = 0;
        for (char c : signs.toCharArray()) {
            row = row * 32 + (c >= 'a' ? c - 'a' + 1 : c - '0' + 26);
        }
        return row;
    }
}
