import java.util.NoSuchElementException;

/** What the tests share: calls whose answers and exceptions are compared, texts put on a tape. */
final class Check {
    interface Call {
        long answer();
    }

    private static int checks = 0;
    private static int wrong = 0;

    private Check() {
    }

    /** The answer as a text, or the name of the exception that the call throws. */
    static String told(Call call) {
        try {
            return Long.toString(call.answer());
        } catch (RuntimeException e) {
            return e.getClass() == NoSuchElementException.class ? "none"
                    : e.getClass() == IllegalArgumentException.class ? "illegal" : e.toString();
        }
    }

    static void same(String what, Object due, Object got) {
        checks++;
        if (!due.equals(got)) {
            wrong++;
            System.out.println(what + " answered " + got + ", due is " + due);
        }
    }

    static void is(String what, long due, Call call) {
        same(what, Long.toString(due), told(call));
    }

    static void none(String what, Call call) {
        same(what, "none", told(call));
    }

    static void illegal(String what, Call call) {
        same(what, "illegal", told(call));
    }

    static int wrong() {
        return wrong;
    }

    static void end() {
        System.out.println(checks + " checks, " + wrong + " wrong");
        if (wrong != 0 || checks == 0) {
            System.exit(1);
        }
    }

    /** Puts a text on the tape, filled up with blanks. */
    static void put(FoldTower t, String text) {
        for (int i = 0; i < text.length(); i += 20) {
            t.feed(word(text, i), word(text, i + 4), word(text, i + 8), word(text, i + 12), word(text, i + 16));
        }
    }

    static int word(String text, int from) {
        int word = 0;
        for (int i = from; i < from + 4; i++) {
            word = word << 8 | (i < text.length() ? text.charAt(i) & 255 : 32);
        }
        return word;
    }

    /** A new object that a text without a fault tells. */
    static FoldTower schooled(String text) {
        FoldTower t = new FoldTower();
        is("school " + text, 0, () -> school(t, text));
        return t;
    }

    static int school(FoldTower t, String text) {
        put(t, text);
        return t.school(text.length());
    }

    static int row(FoldTower t, String text) {
        put(t, text);
        return t.row(text.length());
    }
}
