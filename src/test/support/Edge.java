/** What the edge tests share: the sentence in hand, what was due, and islands laid of a text. */
final class Edge {
    static final int BAD = -1, NO = -2, FULL = -3, NONE = -4;

    /** Numbers that nothing in the document tells; some are right ones once bits are cut off. */
    static final int[] FAR = {
        Integer.MIN_VALUE, Integer.MIN_VALUE + 1, Integer.MIN_VALUE + 256, -65536, -512, -256, -128, -64, -33, -32, -31,
        -16, -8, -5, -4, -3, -2, -1, 10000, 65536, 65537, 1 << 20, 1 << 24, (1 << 24) + 1, 1 << 30, Integer.MAX_VALUE - 1,
        Integer.MAX_VALUE,
    };

    private static String sentence = "no sentence yet";
    private static int sentences = 0;
    private static int wrong = 0;

    private Edge() {
    }

    /** The promise or the part of the terms, and the document's words that the checks behind it hold the class to. */
    static void sentence(String where, String words) {
        sentence = where + ": \"" + words + "\"";
        sentences++;
    }

    static void due(String call, int got, int want) {
        if (got != want) {
            wrong++;
            System.out.println(sentence + ": " + call + " answered " + got + ", due is " + want);
        }
    }

    static void end(String program) {
        System.out.println(program + ": " + sentences + " sentences, " + (wrong == 0 ? "all as due" : wrong + " wrong"));
        if (wrong != 0) {
            System.exit(1);
        }
    }

    static void write(LeavingVote x, String text) {
        for (int k = 0; k < text.length(); k++) {
            x.write(text.charAt(k));
        }
    }

    static LeavingVote written(String text) {
        LeavingVote x = new LeavingVote();
        write(x, text);
        return x;
    }

    static int faultOf(String text) {
        return written(text).fault();
    }

    static int layOf(String text) {
        return written(text).lay();
    }

    static LeavingVote laid(String text) {
        LeavingVote x = written(text);
        if (x.lay() < 1) {
            due("lay() of " + text, NO, 1);
        }
        return x;
    }

    static LeavingVote iced(String text) {
        LeavingVote x = laid(text);
        x.weather(1);
        return x;
    }

    static LeavingVote stormy(String text) {
        LeavingVote x = laid(text);
        x.weather(0);
        return x;
    }

    /** So many times the same item. */
    static String times(int n, String item) {
        return item.repeat(n);
    }

    /** So many ISLANDERS of a KIND, those of the set against both QUESTIONS, each with a cow. */
    static String people(int n, int kind, int against) {
        StringBuilder text = new StringBuilder();
        for (int i = 0; i < n; i++) {
            text.append('i').append(kind).append(',').append((against >> i & 1) * 3).append(",0,1;");
        }
        return text.toString();
    }

    static int all(int n) {
        return (1 << n) - 1;
    }
}
