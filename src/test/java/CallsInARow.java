/** Calls behind one another: the tape, what is loaded, what ran last, and the last of 512 calls. */
public final class CallsInARow {
    private static final String BLOCKS = "s:{}malloc r2<int>;mov r1,9;st r2(0),r1;jmp l;l:{r1:int}halt;";
    private static final String PROGRAM = "(fun x:int.x)4";

    public static void main(String[] args) {
        everyPlaceOfTheTape();
        everyByteOfTheTape();
        fullTape();
        tapeIsEmptyThen();
        counts();
        nothingRanSince();
        lastRun();
        places();
        loadedStays();
        ofAnotherSort();
        twoObjects();
        last512();
        Check.end();
    }

    private static boolean feed(TypedDescent x, String twenty) {
        int[] words = new int[5];
        for (int i = 0; i < 20; i++) {
            words[i / 4] = words[i / 4] << 8 | twenty.charAt(i) & 255;
        }
        return x.feed(words[0], words[1], words[2], words[3], words[4]);
    }

    /** "20 bytes come behind the tape, the highest of a first". */
    private static void everyPlaceOfTheTape() {
        for (int at = 0; at < 40; at++) {
            TypedDescent x = new TypedDescent();
            String text = " ".repeat(at) + "@" + " ".repeat(39 - at);
            Check.due("fed", feed(x, text.substring(0, 20)) ? 1 : 0, 1);
            Check.due("tape", x.count(5), 20);
            Check.due("fed", feed(x, text.substring(20)) ? 1 : 0, 1);
            Check.due("tape", x.count(5), 40);
            Check.due("program", x.program(40), 1);
            Check.due("place", x.place(), at);
        }
    }

    private static void everyByteOfTheTape() {
        for (int b = 0; b < 256; b++) {
            TypedDescent x = new TypedDescent();
            x.feed(0x20202000 | b, 0x40202020, -1, Integer.MIN_VALUE, Integer.MAX_VALUE);
            boolean blank = b == 9 || b == 10 || b == 13 || b == 32;
            boolean begins = b >= '0' && b <= '9' || b >= 'A' && b <= 'Z' || b >= 'a' && b <= 'z' || "(<#".indexOf(b) >= 0;
            Check.due("byte " + b, x.program(20), 1);
            Check.due("place of byte " + b, x.place(), b == '%' ? 20 : blank || begins ? 4 : 3);
        }
        TypedDescent y = new TypedDescent();
        y.feed(-1, -1, -1, -1, -1);
        Check.due("bytes of -1", y.program(20), 1);
        Check.due("place", y.place(), 0);
    }

    /** "false if more than 6000 would be there". */
    private static void fullTape() {
        TypedDescent x = new TypedDescent();
        for (int i = 1; i <= 300; i++) {
            Check.due("feed " + i, feed(x, i == 300 ? "                  17" : " ".repeat(20)) ? 1 : 0, 1);
            if (i > 290) {
                Check.due("tape", x.count(5), 20 * i);
            }
        }
        for (int i = 0; i < 3; i++) {
            Check.due("one more", feed(x, "@".repeat(20)) ? 1 : 0, 0);
            Check.due("tape", x.count(5), 6000);
        }
        Check.due("6001", x.program(6001), -1);
        Check.due("6000", x.program(6000), 0);
        Check.due("run", x.run(0, 0), 0);
        Check.due("what was there", x.value(), 17);
        Check.due("empty", x.count(5), 0);
        Check.due("feed again", feed(x, "3" + " ".repeat(19)) ? 1 : 0, 1);
        Check.due("program", x.program(20), 0);
    }

    /** "The first n bytes of the tape, which is empty then"; "-1 if n is not 0 .. the bytes that there are". */
    private static void tapeIsEmptyThen() {
        for (int n = 0; n <= 21; n++) {
            TypedDescent x = new TypedDescent();
            feed(x, "1+2+3+4+5+6+7+8+9+10");
            int due = n > 20 ? -1 : n % 2 == 0 && n < 20 ? 1 : 0;
            Check.due("program(" + n + ")", x.program(n), due);
            Check.due("place", x.place(), due == 1 ? n : -1);
            Check.due("tape", x.count(5), n > 20 ? 20 : 0);
            Check.due("behind it", x.program(1), n > 20 ? 0 : -1);
            TypedDescent y = new TypedDescent();
            feed(y, "s:{}jmp s;          ");
            due = n > 20 ? -1 : n < 10 ? 1 : 0;
            Check.due("blocks(" + n + ")", y.blocks(n), due);
            Check.due("place", y.place(), due == 1 ? (n == 5 || n == 6 ? 4 : n) : -1);
            Check.due("tape", y.count(5), n > 20 ? 20 : 0);
            Check.due("behind it", y.blocks(1), n > 20 ? 1 : -1);
        }
    }

    /** "-1 for another what". */
    private static void counts() {
        TypedDescent x = new TypedDescent();
        Check.program(x, PROGRAM);
        x.run(10, 10);
        feed(x, " ".repeat(20));
        int[] due = {4, 1, 1, 1, 1, 20, 0};
        for (int what = 0; what < due.length; what++) {
            Check.due("count(" + what + ")", x.count(what), due[what]);
        }
        x.program(0);
        Check.blocks(x, BLOCKS);
        x.run(10, 10);
        feed(x, " ".repeat(20));
        int[] ofBlocks = {1, 5, 0, 1, 2, 20, 21 + 10 + 17 + 5 + 1 + 2};
        for (int what = 0; what < ofBlocks.length; what++) {
            Check.due("count(" + what + ")", x.count(what), ofBlocks[what]);
        }
        int[] none = {-1, 7, 8, -7, 256, Integer.MIN_VALUE, Integer.MAX_VALUE};
        for (int what : none) {
            Check.due("count(" + what + ")", x.count(what), -1);
        }
    }

    private static void nothing(String what, TypedDescent x) {
        Check.due("value, " + what, x.value(), 0);
        for (int k = 0; k <= 3; k++) {
            Check.due("count " + k + ", " + what, x.count(k), 0);
        }
        for (int k = 1; k <= 2; k++) {
            Check.due("register " + k + ", " + what, x.register(k), 0);
        }
        Check.due("heap, " + what, x.heap(0), 0);
    }

    /** "nothing ran since a text was read", whether it has a fault or not. */
    private static void nothingRanSince() {
        String[] texts = {"1", "x", "", "<>", PROGRAM};
        String[] blocks = {"s:{}jmp s;", "s", "", "s:{}halt;", BLOCKS};
        for (int i = 0; i < texts.length; i++) {
            for (int first = 0; first < 2; first++) {
                TypedDescent x = new TypedDescent();
                Check.due("fault", first == 0 ? Check.program(x, PROGRAM) : Check.blocks(x, BLOCKS), 0);
                Check.due("run", x.run(20, 20), 0);
                Check.due("value", x.value(), first == 0 ? 4 : 9);
                Check.program(x, texts[i]);
                nothing("behind the program " + texts[i], x);
                Check.due("fault", first == 0 ? Check.program(x, PROGRAM) : Check.blocks(x, BLOCKS), 0);
                nothing("behind a text", x);
                Check.due("run", x.run(20, 20), 0);
                Check.blocks(x, blocks[i]);
                nothing("behind the blocks " + blocks[i], x);
            }
        }
    }

    /** "What the last run that ended gave ..; 0 if the last one did not". */
    private static void lastRun() {
        TypedDescent x = new TypedDescent();
        Check.program(x, PROGRAM);
        int[][] runs = {{1, 4, 0}, {0, 4, 1}, {1, 3, 2}, {20000, 20000, 0}, {0, 0, 2}, {0, 20000, 1}, {1, 4, 0}};
        for (int[] run : runs) {
            Check.due("run", x.run(run[0], run[1]), run[2]);
            Check.due("value", x.value(), run[2] == 0 ? 4 : 0);
            Check.due("refused", x.run(-1, 0), -1);
            Check.due("value", x.value(), run[2] == 0 ? 4 : 0);
        }
        Check.blocks(x, BLOCKS);
        int[][] of = {{5, 1, 0}, {4, 1, 1}, {5, 0, 2}, {20000, 20000, 0}, {0, 0, 1}, {1, 0, 2}, {5, 1, 0}};
        for (int[] run : of) {
            Check.due("run", x.run(run[0], run[1]), run[2]);
            Check.due("value", x.value(), run[2] == 0 ? 9 : 0);
            Check.due("refused", x.run(0, 20001), -1);
            Check.due("value", x.value(), run[2] == 0 ? 9 : 0);
        }
    }

    /** "The place of the last fault; -1 if what was read last has none". */
    private static void places() {
        TypedDescent x = new TypedDescent();
        Check.due("nothing was read", x.place(), -1);
        Check.due("fault", Check.program(x, "1+x"), 3);
        Check.due("place", x.place(), 2);
        Check.due("refused", x.program(1), -1);
        Check.due("place", x.place(), 2);
        Check.due("refused", x.run(1, 1), -1);
        Check.due("place", x.place(), 2);
        Check.due("no fault", Check.blocks(x, BLOCKS), 0);
        Check.due("place", x.place(), -1);
        Check.due("fault", Check.blocks(x, "s:{}halt;"), 5);
        Check.due("place", x.place(), 4);
        Check.due("no fault", Check.program(x, "1"), 0);
        Check.due("place", x.place(), -1);
        Check.due("no bytes", x.blocks(0), 1);
        Check.due("place", x.place(), 0);
        Check.due("at the end", Check.program(x, "1+  "), 1);
        Check.due("place", x.place(), 4);
    }

    /** What comes on the tape is nothing to what is loaded. */
    private static void loadedStays() {
        TypedDescent x = new TypedDescent();
        Check.program(x, PROGRAM);
        feed(x, "@".repeat(20));
        Check.due("run", x.run(20, 20), 0);
        Check.due("value", x.value(), 4);
        Check.due("kind", Check.kind(x), "int");
        feed(x, "@".repeat(20));
        Check.due("run", x.run(20, 20), 0);
        Check.due("fault", x.program(40), 1);
        Check.due("nothing is loaded", x.count(4), 0);
        Check.due("run", x.run(20, 20), -1);
        Check.blocks(x, BLOCKS);
        feed(x, "@".repeat(20));
        Check.due("run", x.run(20, 20), 0);
        Check.due("value", x.value(), 9);
        Check.due("label", x.label(1), 8192 + 53);
        Check.due("loaded", x.count(4), 2);
    }

    /** kind is of a program, code and label are of blocks, register and heap of a run of blocks. */
    private static void ofAnotherSort() {
        TypedDescent x = new TypedDescent();
        Check.blocks(x, BLOCKS);
        Check.due("run", x.run(20, 20), 0);
        Check.due("kind", x.kind(0), -1);
        Check.due("code", x.code(8192), 0x89);
        Check.due("label", x.label(0), 8192);
        Check.due("register", x.register(1), 9);
        Check.due("heap", x.heap(0), 9);
        Check.program(x, "(fun x:int.x)4+#1<7,7>");
        Check.due("run", x.run(20, 20), 0);
        Check.due("kind", x.kind(0), 'i');
        Check.due("code", x.code(8192), -1);
        Check.due("label", x.label(0), -1);
        Check.due("bytes", x.count(6), 0);
        for (int k = 0; k <= 16; k++) {
            Check.due("register", x.register(k), 0);
        }
        for (int k = 0; k < 8; k++) {
            Check.due("heap", x.heap(k), 0);
        }
        Check.blocks(x, "s:{}jmp s;");
        Check.due("kind", x.kind(0), -1);
        Check.due("register", x.register(1), 0);
        Check.due("heap", x.heap(0), 0);
        Check.due("run", x.run(20, 20), 1);
        Check.due("register", x.register(1), 0);
        Check.due("heap", x.heap(0), 0);
        Check.due("heap", x.heap(4), 0);
    }

    private static void twoObjects() {
        TypedDescent x = new TypedDescent();
        TypedDescent y = new TypedDescent();
        feed(x, "1+2                 ");
        Check.due("tape", y.count(5), 0);
        Check.due("blocks", Check.blocks(y, BLOCKS), 0);
        Check.due("program", x.program(20), 0);
        Check.due("run", y.run(20, 20), 0);
        Check.due("run", x.run(20, 20), 0);
        Check.due("value", x.value(), 3);
        Check.due("value", y.value(), 9);
        Check.due("heap", y.heap(0), 9);
        Check.due("heap", x.heap(0), 0);
        Check.due("fault", Check.program(x, "x"), 3);
        Check.due("place", y.place(), -1);
        Check.due("place", x.place(), 0);
    }

    /** "An object is used for at most 512 calls after it has been made". */
    private static void last512() {
        TypedDescent x = new TypedDescent();
        int calls = 0;
        for (; calls < 300; calls++) {
            Check.due("fed", feed(x, calls == 299 ? "(fun x:int.x)7      " : " ".repeat(20)) ? 1 : 0, 1);
        }
        Check.due("program", x.program(6000), 0);
        calls++;
        for (; calls < 510; calls++) {
            Check.due("run", x.run(calls, calls), 0);
        }
        Check.due("call 511", x.count(0), 4);
        Check.due("call 512", x.value(), 7);
        TypedDescent y = new TypedDescent();
        for (calls = 0; calls < 511; calls++) {
            Check.due("no text", calls % 2 == 0 ? y.program(0) : y.blocks(0), 1);
        }
        Check.due("call 512", y.place(), 0);
        TypedDescent z = new TypedDescent();
        for (calls = 0; calls < 510; calls += 3) {
            boolean even = calls % 2 == 0;
            feed(z, even ? "let f=fun x:int.x in" : "s:{}mov r1,1;halt;  ");
            Check.due("read", even ? z.program(20) : z.blocks(20), even ? 1 : 0);
            Check.due("place", z.place(), even ? 20 : -1);
        }
        Check.due("call 511", z.run(2, 0), 0);
        Check.due("call 512", z.value(), 1);
    }
}
