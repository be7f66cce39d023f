import java.nio.charset.StandardCharsets;

/** What the tests share: texts go over the tape, answers are held against those that are due. */
final class Check {
    private static int wrong = 0;
    private static int asked = 0;

    private Check() {
    }

    static void due(String what, long got, long want) {
        asked++;
        if (got != want) {
            wrong++;
            System.out.println(shortened(what) + ": answered " + got + ", due is " + want);
        }
    }

    private static String shortened(String what) {
        int n = what.length();
        return n <= 200 ? what : what.substring(0, 100) + " .. " + what.substring(n - 100);
    }

    static void due(String what, String got, String want) {
        asked++;
        if (!got.equals(want)) {
            wrong++;
            System.out.println(shortened(what) + ": answered \"" + got + "\", due is \"" + want + "\"");
        }
    }

    /** Ends the test, with code 1 if an answer was wrong. */
    static void end() {
        if (asked == 0 || wrong > 0) {
            System.out.println(wrong + " of " + asked + " answers are not as due");
            System.exit(1);
        }
    }

    static byte[] bytes(String text) {
        return text.getBytes(StandardCharsets.ISO_8859_1);
    }

    /** Feeds bytes, filled up with zeros to full calls. */
    static void feed(TypedDescent x, byte[] bytes) {
        for (int i = 0; i < bytes.length; i += 20) {
            if (!x.feed(word(bytes, i), word(bytes, i + 4), word(bytes, i + 8),
                    word(bytes, i + 12), word(bytes, i + 16))) {
                throw new IllegalStateException("the tape is full");
            }
        }
    }

    private static int word(byte[] bytes, int from) {
        int word = 0;
        for (int i = from; i < from + 4; i++) {
            word = word << 8 | (i < bytes.length ? bytes[i] & 255 : 0);
        }
        return word;
    }

    static int program(TypedDescent x, String text) {
        feed(x, bytes(text));
        return x.program(text.length());
    }

    static int blocks(TypedDescent x, String text) {
        feed(x, bytes(text));
        return x.blocks(text.length());
    }

    static String kind(TypedDescent x) {
        StringBuilder kind = new StringBuilder();
        for (int i = 0; x.kind(i) >= 0; i++) {
            kind.append((char) x.kind(i));
        }
        return kind.toString();
    }

    /** A program has this fault (0: none) at this place. */
    static void programFault(String text, int fault, int place) {
        TypedDescent x = new TypedDescent();
        due("fault of " + text, program(x, text), fault);
        due("place of " + text, x.place(), place);
        due("loaded of " + text, x.count(4), fault == 0 ? 1 : 0);
    }

    static void blocksFault(String text, int fault, int place) {
        TypedDescent x = new TypedDescent();
        due("fault of " + text, blocks(x, text), fault);
        due("place of " + text, x.place(), place);
        due("loaded of " + text, x.count(4), fault == 0 ? 2 : 0);
    }

    /** A text with the place of its fault marked by a ^, which is taken out of it; none: no fault. */
    static void programMarked(String marked, int fault) {
        programFault(marked.replace("^", ""), fault, marked.indexOf('^'));
    }

    static void blocksMarked(String marked, int fault) {
        blocksFault(marked.replace("^", ""), fault, marked.indexOf('^'));
    }

    /** A program runs with these answers: its value, words, calls, met, and calls not last. */
    static void programRun(String text, int value, int words, int calls, int met, int notLast) {
        TypedDescent x = new TypedDescent();
        due("fault of " + text, program(x, text), 0);
        due("run of " + text, x.run(20000, 20000), 0);
        due("value of " + text, x.value(), value);
        due("words of " + text, x.count(0), words);
        due("calls of " + text, x.count(1), calls);
        due("met of " + text, x.count(2), met);
        due("not last of " + text, x.count(3), notLast);
    }

    /** A kind of programs that has so many parts. */
    static String kindOfParts(int n) {
        return rowOfParts(n, "int");
    }

    /** A value whose kind has so many parts. */
    static String valueOfParts(int n) {
        return rowOfParts(n, "1");
    }

    private static String rowOfParts(int n, String one) {
        if (n == 1) {
            return one;
        }
        StringBuilder row = new StringBuilder("<");
        int fields = Math.min(8, n - 1);
        for (int i = 0; i < fields; i++) {
            int share = (n - 1) / fields + (i < (n - 1) % fields ? 1 : 0);
            row.append(i == 0 ? "" : ",").append(rowOfParts(share, one));
        }
        return row.append('>').toString();
    }

    static String repeated(String part, int n) {
        return part.repeat(n);
    }
}
