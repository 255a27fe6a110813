/** Compares answers with those that are due, and ends a test with exit code 1 if one was not. */
final class Due {
    private final String test;
    private int calls;
    private int wrong;
    private String sentence = "";

    Due(String test) {
        this.test = test;
    }

    /** Names the sentence of the document by which the answers behind it are due. */
    void says(String words) {
        sentence = "'" + words + "': ";
    }

    void is(String call, long got, long want) {
        calls++;
        if (got != want) {
            wrong++;
            if (wrong <= 50) {
                System.out.println(test + ": " + sentence + call + " answered " + got + ", due is " + want);
            }
        }
    }

    void holds(String what, boolean so) {
        is(what, so ? 1 : 0, 1);
    }

    boolean anyWrong() {
        return wrong > 0;
    }

    void end() {
        System.out.println(test + ": " + calls + " answers looked at, " + wrong + " not as due");
        if (wrong > 0) {
            System.exit(1);
        }
    }

    /** Writes a text, eight bytes at a time; the last answer of write. */
    static int write(OneKey x, String text) {
        int answer = x.count(8);
        for (int i = 0; i < text.length(); i += 8) {
            int n = Math.min(8, text.length() - i);
            answer = x.write(bytes(text, i, n), n);
        }
        return answer;
    }

    static long bytes(String text, int from, int n) {
        long bytes = 0;
        for (int i = 0; i < n; i++) {
            bytes |= (long) (text.charAt(from + i) & 255) << 8 * i;
        }
        return bytes;
    }

    /** A new object to which texts have been told. */
    static OneKey told(String... texts) {
        OneKey x = new OneKey();
        for (String text : texts) {
            write(x, text);
            if (x.gaol() < 0) {
                throw new IllegalStateException("the test's own text has a fault at " + x.fault() + ": " + text);
            }
        }
        return x;
    }

    /** The place of a text's fault in a gaol that texts have told. */
    static int fault(String text, String... ahead) {
        OneKey x = told(ahead);
        write(x, text);
        return x.fault();
    }
}
