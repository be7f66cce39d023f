/** Promise 2: feed; and what program and blocks do to the tape (promises 3 and 4). */
public final class Feeding {
    public static void main(String[] args) {
        order();
        limit();
        taken();
        Check.end();
    }

    private static boolean feedText(TypedDescent x, String twenty) {
        int[] words = new int[5];
        for (int i = 0; i < 20; i++) {
            words[i / 4] = words[i / 4] << 8 | twenty.charAt(i);
        }
        return x.feed(words[0], words[1], words[2], words[3], words[4]);
    }

    private static void order() {
        TypedDescent x = new TypedDescent();
        Check.due("fed", feedText(x, "let abc = 12 in     ") ? 1 : 0, 1);
        Check.due("tape", x.count(5), 20);
        Check.due("fed", feedText(x, "abc * 3             ") ? 1 : 0, 1);
        Check.due("tape", x.count(5), 40);
        Check.due("program", x.program(27), 0);
        Check.due("run", x.run(0, 0), 0);
        Check.due("value", x.value(), 36);
    }

    private static void limit() {
        TypedDescent x = new TypedDescent();
        for (int i = 0; i < 299; i++) {
            Check.due("fed", feedText(x, "                    ") ? 1 : 0, 1);
        }
        Check.due("the 300th", feedText(x, "               41 + ") ? 1 : 0, 1);
        Check.due("tape", x.count(5), 6000);
        Check.due("the 301st", feedText(x, "1                   ") ? 1 : 0, 0);
        Check.due("tape", x.count(5), 6000);
        Check.due("one too many", x.program(6001), -1);
        Check.due("tape", x.count(5), 6000);
        Check.due("program", x.program(6000), 1);
        Check.due("place", x.place(), 6000);
        Check.due("tape", x.count(5), 0);
        Check.due("fed again", feedText(x, "1                   ") ? 1 : 0, 1);
    }

    private static void taken() {
        TypedDescent x = new TypedDescent();
        Check.due("of an empty tape", x.program(1), -1);
        Check.due("of an empty tape", x.blocks(1), -1);
        feedText(x, "7 and what is behind");
        Check.due("below 0", x.program(-1), -1);
        Check.due("below 0", x.blocks(-1), -1);
        Check.due("too many", x.program(21), -1);
        Check.due("too many", x.blocks(21), -1);
        Check.due("least", x.program(Integer.MIN_VALUE), -1);
        Check.due("most", x.blocks(Integer.MAX_VALUE), -1);
        Check.due("tape", x.count(5), 20);
        Check.due("program", x.program(1), 0);
        Check.due("tape", x.count(5), 0);
        Check.due("loaded", x.count(4), 1);
        Check.due("what is refused", x.program(1), -1);
        Check.due("changes nothing", x.count(4), 1);
        Check.due("no bytes at all", x.program(0), 1);
        Check.due("place", x.place(), 0);
        Check.due("loaded", x.count(4), 0);
        Check.due("no bytes at all", x.blocks(0), 1);
        Check.due("place", x.place(), 0);
    }
}
