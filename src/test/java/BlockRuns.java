/** Promises 9 to 13 of blocks: how they end, their value, steps, registers and heap. */
public final class BlockRuns {
    public static void main(String[] args) {
        arithmetic();
        heap();
        hidden();
        everyKind();
        fuel();
        out();
        refused();
        Check.end();
    }

    private static TypedDescent loaded(String text) {
        TypedDescent x = new TypedDescent();
        Check.due("fault of " + text, Check.blocks(x, text), 0);
        return x;
    }

    private static void counts(TypedDescent x, int words, int steps, int leaps) {
        Check.due("words", x.count(0), words);
        Check.due("steps", x.count(1), steps);
        Check.due("met", x.count(2), 0);
        Check.due("leaps", x.count(3), leaps);
    }

    private static void arithmetic() {
        TypedDescent x = loaded("s: {} mov r2, 2147483647; add r3, r2, 1; mul r4, r2, r2; sub r5, r2, -1;"
            + " mul r6, r4, -7; sub r1, r6, r4; halt;");
        Check.due("run", x.run(20000, 0), 0);
        Check.due("value", x.value(), -8);
        int[] due = {0, -8, 2147483647, -2147483648, 1, -2147483648, -7, 0};
        for (int k = 1; k < due.length; k++) {
            Check.due("register " + k, x.register(k), due[k]);
        }
        counts(x, 0, 7, 0);
    }

    private static void heap() {
        TypedDescent x = loaded("s: {} malloc r2 <int, int, <int, int>>; malloc r3 <int, int>; mov r4, 7;"
            + " st r3(1), r4; st r3(0), r4; mov r4, 9; st r2(1), r4; st r2(2), r3; mov r5, r2; mov r4, -3;"
            + " st r3(0), r4; ld r6, r5(2); ld r5, r6(0); ld r1, r2(1); add r1, r1, r5; malloc r7 <>; halt;");
        Check.due("run", x.run(20000, 20000), 0);
        Check.due("value", x.value(), 6);
        counts(x, 5, 17, 0);
        int[] words = {0, 9, 65536 + 12, -3, 7, 0};
        for (int k = 0; k < words.length; k++) {
            Check.due("word " + k, x.heap(k), words[k]);
        }
        Check.due("r2", x.register(2), 65536);
        Check.due("r3", x.register(3), 65548);
        Check.due("r6", x.register(6), 65548);
        Check.due("r7", x.register(7), 65556);
        Check.due("below", x.heap(-1), 0);
        Check.due("least", x.heap(Integer.MIN_VALUE), 0);
        Check.due("most", x.heap(Integer.MAX_VALUE), 0);
        Check.due("run again, with less", x.run(12, 5), 1);
        Check.due("what was stored", x.heap(3), -3);
        Check.due("run again, with less", x.run(2, 5), 1);
        Check.due("nothing was stored now", x.heap(3), 0);
        Check.due("nothing was stored now", x.heap(1), 0);
        Check.due("run again, with less", x.run(1, 5), 1);
        Check.due("not made now", x.heap(4), 0);
        counts(x, 3, 1, 0);
    }

    /** An object with its method hidden behind some. */
    private static void hidden() {
        TypedDescent x = loaded("s: {} malloc r2 <int, code {r1: int, r2: code {r1: int}}>; mov r3, 20; st r2(0), r3;"
            + " mov r3, twice; st r2(1), r3;"
            + " mov r4, pack [int, r2] as some a . <a, code {r1: a, r2: code {r1: int}}>; jmp use;"
            + " use: {r4: some b . <b, code {r1: b, r2: code {r1: int}}>}"
            + " unpack c, r5, r4; ld r1, r5(0); ld r6, r5(1); mov r2, end; jmp r6;"
            + " twice: {r1: int, r2: code {r1: int}} add r1, r1, r1; jmp r2;"
            + " end: {r1: int} add r1, r1, 2; halt;");
        Check.due("run", x.run(20000, 2), 0);
        Check.due("value", x.value(), 42);
        counts(x, 2, 16, 3);
        Check.due("a label in a register", x.register(6), x.label(2));
        Check.due("a label in a register", x.register(2), x.label(3));
        Check.due("a label in the heap", x.heap(1), x.label(2));
    }

    /** A block for every kind goes on to one that is for every kind, too. */
    private static void everyKind() {
        TypedDescent x = loaded("s: {} mov r1, 5; mov r2, back; jmp pair [int] [code {r1: int}];"
            + " pair: [a b] {r1: a, r2: code [c] {r3: <a, a?>, r4: c}}"
            + " malloc r3 <a, a>; st r3(0), r1; mov r4, r3; jmp r2 [<a?, a?>];"
            + " back: [c] {r3: <int, int?>, r4: c} ld r1, r3(0); halt;");
        Check.due("run", x.run(20000, 2), 0);
        Check.due("value", x.value(), 5);
        counts(x, 2, 9, 2);
        Check.due("one place", x.register(3), x.register(4));
    }

    private static void fuel() {
        TypedDescent x = loaded("s: {} mov r1, 3; jmp l; l: {r1: int} bnz r1, m; halt;"
            + " m: {r1: int} sub r1, r1, 1; jmp l;");
        Check.due("none", x.run(0, 0), 1);
        Check.due("value", x.value(), 0);
        counts(x, 0, 0, 0);
        Check.due("one", x.run(1, 0), 1);
        Check.due("register", x.register(1), 3);
        Check.due("value", x.value(), 0);
        Check.due("all but one", x.run(12, 0), 1);
        counts(x, 0, 12, 7);
        Check.due("all", x.run(13, 0), 0);
        counts(x, 0, 13, 7);
        Check.due("value", x.value(), 0);
        TypedDescent y = loaded("s: {} jmp s;");
        Check.due("endless", y.run(20000, 20000), 1);
        counts(y, 0, 20000, 20000);
        TypedDescent z = loaded("s: {} mov r1, s; jmp r1;");
        Check.due("endless", z.run(20000, 20000), 1);
        counts(z, 0, 20000, 10000);
        Check.due("its label", z.register(1), 8192);
    }

    private static void out() {
        TypedDescent x = loaded("s: {} mov r1, 1; jmp l; l: {r1: int} malloc r2 <int, int, int>; st r2(2), r1;"
            + " add r1, r1, 1; jmp l;");
        Check.due("out", x.run(20000, 8), 2);
        counts(x, 6, 2 + 8, 3);
        Check.due("no value", x.value(), 0);
        Check.due("registers are there", x.register(1), 3);
        Check.due("registers are there", x.register(2), 65548);
        Check.due("heap is there", x.heap(2), 1);
        Check.due("heap is there", x.heap(5), 2);
        Check.due("not made", x.heap(6), 0);
        Check.due("just so many", x.run(20000, 9), 2);
        counts(x, 9, 2 + 12, 4);
        Check.due("fuel is first", x.run(10, 8), 1);
        counts(x, 6, 10, 3);
        Check.due("most", x.run(20000, 20000), 1);
        counts(x, 15000, 20000, 5000);
        Check.due("the last word", x.heap(14999), 5000);
        TypedDescent y = loaded("s: {} malloc r2 <>; mov r1, 4; halt;");
        Check.due("no words wanted", y.run(20000, 0), 0);
        Check.due("value", y.value(), 4);
        Check.due("a place without words", y.register(2), 65536);
        TypedDescent z = loaded("s: {} malloc r2 <int>; jmp s;");
        Check.due("all words", z.run(20000, 20000), 1);
        Check.due("all words", z.run(20000, 9999), 2);
        counts(z, 9999, 19998, 9999);
    }

    private static void refused() {
        TypedDescent x = loaded("s: {} malloc r2 <int>; mov r1, 8; st r2(0), r1; halt;");
        Check.due("ahead of a run", x.register(1), 0);
        Check.due("ahead of a run", x.heap(0), 0);
        Check.due("ahead of a run", x.value(), 0);
        Check.due("run", x.run(10, 10), 0);
        int[][] wrong = {{-1, 10}, {20001, 10}, {10, -1}, {10, 20001}};
        for (int[] of : wrong) {
            Check.due("refused", x.run(of[0], of[1]), -1);
            Check.due("value", x.value(), 8);
            counts(x, 1, 4, 0);
            Check.due("register", x.register(1), 8);
            Check.due("heap", x.heap(0), 8);
        }
        int[] none = {0, -1, 16, Integer.MIN_VALUE, Integer.MAX_VALUE};
        for (int k : none) {
            Check.due("register " + k, x.register(k), 0);
        }
        Check.due("register 15", x.register(15), 0);
        Check.due("refused", x.blocks(1), -1);
        Check.due("register", x.register(1), 8);
        Check.due("a fault", Check.blocks(x, "s"), 1);
        Check.due("register", x.register(1), 0);
        Check.due("heap", x.heap(0), 0);
        Check.due("value", x.value(), 0);
        Check.due("a program", Check.program(x, "(fun x : int . x) 3"), 0);
        Check.due("run", x.run(10, 10), 0);
        Check.due("no register", x.register(1), 0);
        Check.due("no heap", x.heap(1), 0);
        Check.due("blocks again", Check.blocks(x, "s: {} mov r1, 8; halt;"), 0);
        Check.due("not yet", x.count(1), 0);
        Check.due("not yet", x.register(1), 0);
    }
}
