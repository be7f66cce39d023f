/** BYTES of blocks and runs of them: addresses, numbers, steps and words at their boundaries. */
public final class BlockRunEdges {
    public static void main(String[] args) {
        addresses();
        mostBytes();
        numbersInBytes();
        placesInBytes();
        ways();
        labels();
        wraps();
        fuel();
        mostFuel();
        words();
        mostWords();
        outIsNotDone();
        heapWords();
        registers();
        fromTheBeginning();
        leaps();
        bounds();
        Check.end();
    }

    private static TypedDescent loaded(String text) {
        TypedDescent x = new TypedDescent();
        Check.due("fault of " + text, Check.blocks(x, text), 0);
        return x;
    }

    private static String bytes(TypedDescent x, int from, int n) {
        StringBuilder bytes = new StringBuilder();
        for (int i = 0; i < n; i++) {
            bytes.append(String.format("%02X", x.code(from + i)));
        }
        return bytes.toString();
    }

    /** "Bytes are at addresses from 8192 on"; "Behind all blocks: CD 01"; "-1 if there is none". */
    private static void addresses() {
        TypedDescent x = loaded("s:{}jmp s;");
        Check.due("how many", x.count(6), 7);
        Check.due("all", bytes(x, 8192, 7), "E9FBFFFFFFCD01");
        int[] none = {8191, 8199, 8200, 0, 1, -1, -8192, 65536, 8192 + 65536, Integer.MIN_VALUE, Integer.MAX_VALUE,
            Integer.MIN_VALUE + 8192};
        for (int address : none) {
            Check.due("code(" + address + ")", x.code(address), -1);
        }
        TypedDescent y = loaded("s:{}mov r1,1;halt;");
        Check.due("how many", y.count(6), 13);
        Check.due("all", bytes(y, 8192, 13), "B801000000A304000000F4CD01");
        Check.due("behind", y.code(8205), -1);
        // the longer one that was there before is gone
        Check.due("fault", Check.blocks(y, "s:{}jmp s;"), 0);
        Check.due("the last", y.code(8198), 1);
        Check.due("behind", y.code(8199), -1);
    }

    private static void mostBytes() {
        TypedDescent x = loaded("s:{}" + "malloc r15<>;".repeat(238) + "jmp s;");
        int n = 238 * 21 + 5 + 2;
        Check.due("how many", x.count(6), n);
        Check.due("the last", x.code(8192 + n - 1), 1);
        Check.due("the last but one", x.code(8192 + n - 2), 0xCD);
        Check.due("behind", x.code(8192 + n), -1);
        // its way is from 16 to 5003, that of the jump from 5003 to 0
        Check.due("the first", bytes(x, 8192, 21), "89F881C70000000039F70F87" + "7B130000" + "A33C000000");
        Check.due("the jump back", bytes(x, 8192 + n - 7, 5), "E9" + "75ECFFFF");
        // 40 blocks, as many tokens as may be
        StringBuilder text = new StringBuilder();
        for (int i = 0; i < 40; i++) {
            text.append("b").append(i).append(":{}").append("malloc r1<>;".repeat(4)).append("jmp b0;");
        }
        TypedDescent y = loaded(text.toString());
        Check.due("how many", y.count(6), 40 * (4 * 21 + 5) + 2);
        Check.due("label 39", y.label(39), 8192 + 39 * 89);
        Check.due("label 40", y.label(40), -1);
        Check.due("run", y.run(20000, 0), 1);
        Check.due("leaps", y.count(3), 4000);
    }

    private static void number(String number, String bytes) {
        TypedDescent x = loaded("s:{}mov r1," + number + ";add r1,r1," + number + ";sub r1,r1," + number + ";mul r1,r1,"
            + number + ";halt;");
        Check.due("mov of " + number, bytes(x, 8192, 5), "B8" + bytes);
        Check.due("add of " + number, bytes(x, 8192 + 15, 5), "05" + bytes);
        Check.due("sub of " + number, bytes(x, 8192 + 30, 5), "2D" + bytes);
        Check.due("mul of " + number, bytes(x, 8192 + 45, 6), "69C0" + bytes);
    }

    /** "Words have four bytes, the lowest first". */
    private static void numbersInBytes() {
        number("0", "00000000");
        number("-0", "00000000");
        number("1", "01000000");
        number("-1", "FFFFFFFF");
        number("255", "FF000000");
        number("256", "00010000");
        number("-256", "00FFFFFF");
        number("65535", "FFFF0000");
        number("65536", "00000100");
        number("16777216", "00000001");
        number("2147483647", "FFFFFF7F");
        number("-2147483647", "01000080");
        number("305419896", "78563412");
    }

    /** "Register k's word is at 4 * k"; fields of ld and st are 4 * the number, malloc's 4 * as many. */
    private static void placesInBytes() {
        for (int k = 1; k <= 15; k++) {
            TypedDescent x = loaded("s:{}mov r" + k + ",0;mov r1,r" + k + ";halt;");
            Check.due("to r" + k, bytes(x, 8197, 5), String.format("A3%02X000000", 4 * k));
            Check.due("from r" + k, bytes(x, 8202, 5), String.format("A1%02X000000", 4 * k));
        }
        for (int k = 0; k <= 7; k++) {
            String kinds = "int" + ",int".repeat(k);
            TypedDescent x = loaded("s:{}malloc r2<" + kinds + ">;mov r3,1;st r2(" + k + "),r3;ld r1,r2(" + k + ");halt;");
            Check.due("malloc of " + (k + 1), bytes(x, 8192, 8), String.format("89F881C7%02X000000", 4 * k + 4));
            Check.due("st " + k, bytes(x, 8192 + 31, 17), String.format("A10C0000008B0D080000008981%02X000000", 4 * k));
            Check.due("ld " + k, bytes(x, 8192 + 48, 16), String.format("A1080000008B80%02X000000A304000000", 4 * k));
        }
    }

    /** "D of a way from behind the instruction". */
    private static void ways() {
        TypedDescent x = loaded("s:{}jmp l;l:{}jmp l;m:{}jmp s;n:{}mov r2,1;bnz r2,s;bnz r2,n;mov r3,s;bnz r2,r3;jmp r3;");
        Check.due("to the next", bytes(x, 8192, 5), "E900000000");
        Check.due("to itself", bytes(x, 8197, 5), "E9FBFFFFFF");
        Check.due("to the first", bytes(x, 8202, 5), "E9F1FFFFFF");
        Check.due("bnz to the first", bytes(x, 8217, 18), "A10800000085C00F8405000000E9D5FFFFFF");
        Check.due("bnz to its block", bytes(x, 8235, 18), "A10800000085C00F8405000000E9D2FFFFFF");
        Check.due("bnz to a register", bytes(x, 8263, 19), "A10800000085C00F8406000000FF250C000000");
        Check.due("to a register", bytes(x, 8282, 6), "FF250C000000");
        TypedDescent y = loaded("s:{}malloc r2<>;malloc r2<>;mov r1,0;halt;");
        Check.due("of the first to the end", bytes(y, 8202, 6), "0F8725000000");
        Check.due("of the second to the end", bytes(y, 8223, 6), "0F8710000000");
    }

    /** "The address of block k .. -1 if there is none". */
    private static void labels() {
        TypedDescent x = loaded("s:{}jmp m;l:{}mov r1,l;jmp s;m:{}mov r1,1;halt;");
        Check.due("label 0", x.label(0), 8192);
        Check.due("label 1", x.label(1), 8197);
        Check.due("label 2", x.label(2), 8212);
        int[] none = {-1, 3, 4, 40, 8192, Integer.MIN_VALUE, Integer.MAX_VALUE};
        for (int k : none) {
            Check.due("label(" + k + ")", x.label(k), -1);
        }
        Check.due("a label's word", bytes(x, 8197, 5), "B805200000");
        Check.due("fewer blocks", Check.blocks(x, "s:{}jmp s;"), 0);
        Check.due("label 0", x.label(0), 8192);
        Check.due("label 1", x.label(1), -1);
    }

    private static void result(String instructions, int value) {
        TypedDescent x = loaded("s:{}" + instructions + "halt;");
        Check.due("run of " + instructions, x.run(20000, 20000), 0);
        Check.due("value of " + instructions, x.value(), value);
        Check.due("r1 of " + instructions, x.register(1), value);
    }

    /** Words have 32 bits and wrap. */
    private static void wraps() {
        String most = "mov r2,2147483647;";
        result(most + "add r1,r2,1;", -2147483648);
        result(most + "add r1,r2,r2;", -2);
        result(most + "mul r1,r2,r2;", 1);
        result(most + "mul r1,r2,2;", -2);
        result(most + "sub r1,r2,-1;", -2147483648);
        result("mov r2,-2147483647;sub r1,r2,1;", -2147483648);
        result("mov r2,-2147483647;sub r1,r2,2;", 2147483647);
        result("mov r2,-2147483647;add r1,r2,-2;", 2147483647);
        result("mov r2,-2147483647;sub r2,r2,1;mul r1,r2,-1;", -2147483648);
        result("mov r2,65536;mul r1,r2,r2;", 0);
        result("mov r2,46341;mul r1,r2,r2;", -2147479015);
        result("mov r1,-0;", 0);
    }

    private static final String LOOP = "s:{}mov r2,3;jmp l;l:{r2:int}sub r2,r2,1;bnz r2,l;mov r1,7;halt;";

    /** "till they halt, or so many steps are done". */
    private static void fuel() {
        TypedDescent x = loaded(LOOP);
        // 2, then 3 rounds of 2, then 2
        int[] leaps = {0, 0, 1, 1, 2, 2, 3, 3, 3, 3, 3, 3};
        for (int fuel = 0; fuel <= 11; fuel++) {
            Check.due("run with " + fuel, x.run(fuel, 0), fuel < 10 ? 1 : 0);
            Check.due("steps with " + fuel, x.count(1), Math.min(fuel, 10));
            Check.due("leaps with " + fuel, x.count(3), leaps[fuel]);
            Check.due("value with " + fuel, x.value(), fuel < 10 ? 0 : 7);
            Check.due("r1 with " + fuel, x.register(1), fuel < 9 ? 0 : 7);
        }
    }

    private static void mostFuel() {
        // mov, jmp, rounds of 2, mov, halt
        TypedDescent x = loaded(LOOP.replace("mov r2,3", "mov r2,9998"));
        Check.due("just so many", x.run(20000, 0), 0);
        Check.due("steps", x.count(1), 20000);
        Check.due("leaps", x.count(3), 9998);
        Check.due("value", x.value(), 7);
        Check.due("one less", x.run(19999, 0), 1);
        Check.due("value", x.value(), 0);
        Check.due("r1", x.register(1), 7);
        TypedDescent y = loaded(LOOP.replace("mov r2,3", "mov r2,9998").replace("halt", "mov r1,8;halt"));
        Check.due("one more", y.run(20000, 0), 1);
        Check.due("steps", y.count(1), 20000);
        Check.due("r1", y.register(1), 8);
        Check.due("value", y.value(), 0);
    }

    /** "An ins that would make the heap's words more than told is not done: the run is OUT". */
    private static void words() {
        for (int n = 0; n <= 8; n++) {
            String made = "malloc r2<" + (n == 0 ? "" : "int" + ",int".repeat(n - 1)) + ">;";
            TypedDescent x = loaded("s:{}" + made + made + "mov r1,5;halt;");
            for (int heap = 0; heap <= 2 * n + 1; heap++) {
                int rows = n == 0 ? 2 : Math.min(2, heap / n);
                Check.due("run of " + n + " with " + heap, x.run(20000, heap), rows < 2 ? 2 : 0);
                Check.due("words of " + n + " with " + heap, x.count(0), rows * n);
                Check.due("steps of " + n + " with " + heap, x.count(1), rows < 2 ? rows : 4);
                Check.due("value of " + n + " with " + heap, x.value(), rows < 2 ? 0 : 5);
                Check.due("r2 of " + n + " with " + heap, x.register(2), rows == 0 ? 0 : 65536 + 4 * n * (rows - 1));
            }
        }
    }

    private static void mostWords() {
        String loop = "s:{}mov r1,2500;jmp l;l:{r1:int}malloc r2<int,int,int,int,int,int,int,int>;st r2(7),r1;st r2(0),r1;"
            + "sub r1,r1,1;bnz r1,l;";
        TypedDescent x = loaded(loop + "halt;");
        Check.due("just so many", x.run(20000, 20000), 0);
        Check.due("words", x.count(0), 20000);
        Check.due("the last", x.heap(19999), 1);
        Check.due("the last row's first", x.heap(19992), 1);
        Check.due("not stored", x.heap(19998), 0);
        Check.due("the first row's last", x.heap(7), 2500);
        Check.due("behind", x.heap(20000), 0);
        Check.due("its place", x.register(2), 65536 + 4 * 19992);
        Check.due("one less", x.run(20000, 19999), 2);
        Check.due("words", x.count(0), 19992);
        Check.due("not made", x.heap(19999), 0);
        Check.due("not made", x.heap(19992), 0);
        Check.due("the last row", x.heap(19991), 2);
        Check.due("r1", x.register(1), 1);
        TypedDescent y = loaded(loop + "malloc r3<>;malloc r3<int>;halt;");
        Check.due("one more", y.run(20000, 20000), 2);
        Check.due("words", y.count(0), 20000);
        Check.due("none for none", y.register(3), 65536 + 4 * 20000);
        Check.due("steps", y.count(1), 2 + 2500 * 5 + 1);
    }

    private static void outIsNotDone() {
        TypedDescent x = loaded("s:{}mov r1,1;mov r2,5;malloc r3<int>;st r3(0),r2;malloc r3<int,int>;mov r1,2;halt;");
        Check.due("run", x.run(20000, 2), 2);
        Check.due("value", x.value(), 0);
        Check.due("words", x.count(0), 1);
        Check.due("steps", x.count(1), 4);
        Check.due("r1", x.register(1), 1);
        Check.due("r3 is that of the first", x.register(3), 65536);
        Check.due("heap", x.heap(0), 5);
        Check.due("heap", x.heap(1), 0);
        // fuel that ends just ahead of it
        Check.due("run", x.run(4, 2), 1);
        Check.due("run", x.run(5, 2), 2);
        Check.due("run", x.run(5, 3), 1);
        Check.due("r3", x.register(3), 65540);
    }

    /** "Word k of the heap (from 0 on) .., 0 if nothing was stored there; 0 if that was not made". */
    private static void heapWords() {
        TypedDescent x = loaded("s:{}mov r1,-9;malloc r2<int,int,int>;st r2(0),r1;st r2(2),r1;halt;");
        Check.due("ahead of a run", x.heap(0), 0);
        Check.due("run", x.run(20000, 20000), 0);
        int[] due = {-9, 0, -9, 0, 0};
        for (int k = 0; k < due.length; k++) {
            Check.due("heap(" + k + ")", x.heap(k), due[k]);
        }
        int[] none = {-1, 3, 19999, 20000, 20001, 65536, Integer.MIN_VALUE, Integer.MAX_VALUE};
        for (int k : none) {
            Check.due("heap(" + k + ")", x.heap(k), 0);
        }
        Check.due("run with less", x.run(3, 20000), 1);
        Check.due("stored", x.heap(0), -9);
        Check.due("not stored now", x.heap(2), 0);
        Check.due("run with less", x.run(1, 20000), 1);
        Check.due("not made now", x.heap(0), 0);
    }

    /** "Register k (1 .. 15) ..; 0 if there is none such". */
    private static void registers() {
        StringBuilder text = new StringBuilder("s:{}");
        for (int k = 1; k <= 15; k++) {
            text.append("mov r").append(k).append(",").append(100 + k).append(";");
        }
        TypedDescent x = loaded(text + "halt;");
        for (int k = 0; k <= 16; k++) {
            Check.due("ahead of a run, register " + k, x.register(k), 0);
        }
        Check.due("run", x.run(16, 0), 0);
        for (int k = 1; k <= 15; k++) {
            Check.due("register " + k, x.register(k), 100 + k);
        }
        int[] none = {0, -1, 16, 17, 256 + 1, Integer.MIN_VALUE, Integer.MAX_VALUE, Integer.MIN_VALUE + 1};
        for (int k : none) {
            Check.due("register " + k, x.register(k), 0);
        }
    }

    /** "begins at the first one with all registers 0". */
    private static void fromTheBeginning() {
        TypedDescent x = loaded("s:{}jmp l;l:{}mov r1,4;mov r2,5;mov r15,6;halt;");
        for (int round = 0; round < 3; round++) {
            Check.due("run", x.run(20000, 0), 0);
            Check.due("r15", x.register(15), 6);
            Check.due("value", x.value(), 4);
            Check.due("no step", x.run(0, 0), 1);
            for (int k = 1; k <= 15; k++) {
                Check.due("r" + k, x.register(k), 0);
            }
            Check.due("value", x.value(), 0);
            Check.due("steps", x.count(1), 0);
            Check.due("leaps", x.count(3), 0);
            Check.due("two steps", x.run(2, 0), 1);
            Check.due("r1", x.register(1), 4);
            Check.due("r2", x.register(2), 0);
        }
    }

    /** "how often one went to a label or register". */
    private static void leaps() {
        leaps("s:{}mov r1,0;bnz r1,s;halt;", 0, 0);
        leaps("s:{}mov r1,1;bnz r1,l;halt;l:{r1:int}halt;", 0, 1);
        leaps("s:{}mov r1,-1;bnz r1,l;halt;l:{r1:int}halt;", 0, 1);
        leaps("s:{}mov r1,65536;mul r1,r1,r1;bnz r1,l;halt;l:{r1:int}halt;", 0, 0);
        leaps("s:{}mov r1,1;mov r2,l;bnz r1,r2;halt;l:{r1:int}jmp m;m:{r1:int}halt;", 0, 2);
        leaps("s:{}mov r1,1;jmp l[int];l:[a]{r1:int}mov r2,m;jmp r2;m:{r1:int}halt;", 0, 2);
    }

    private static void leaps(String text, int end, int leaps) {
        TypedDescent x = loaded(text);
        Check.due("run of " + text, x.run(20000, 0), end);
        Check.due("leaps of " + text, x.count(3), leaps);
        Check.due("met of " + text, x.count(2), 0);
    }

    private static void bounds() {
        TypedDescent x = loaded("s:{}mov r1,7;halt;");
        int[] in = {0, 1, 19999, 20000};
        int[] out = {-1, 20001, Integer.MIN_VALUE, Integer.MAX_VALUE};
        for (int heap : in) {
            Check.due("run(20000, " + heap + ")", x.run(20000, heap), 0);
            Check.due("run(2, " + heap + ")", x.run(2, heap), 0);
            Check.due("run(1, " + heap + ")", x.run(1, heap), 1);
            Check.due("run(0, " + heap + ")", x.run(0, heap), 1);
            for (int wrong : out) {
                Check.due("run(" + wrong + ", " + heap + ")", x.run(wrong, heap), -1);
                Check.due("run(" + heap + ", " + wrong + ")", x.run(heap, wrong), -1);
            }
        }
        Check.due("steps of the last that was none refused", x.count(1), 0);
    }
}
