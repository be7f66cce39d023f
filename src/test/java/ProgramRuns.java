/** Promises 9, 10 and 11 of programs: how they end, their value, and what is made and counted. */
public final class ProgramRuns {
    public static void main(String[] args) {
        values();
        closures();
        kept();
        lastThings();
        selves();
        rowAfterRow();
        fuel();
        refused();
        Check.end();
    }

    private static void values() {
        Check.programRun("1 + 2 * 3 - 4", 3, 0, 0, 0, 0);
        Check.programRun("2147483647 + 1", -2147483648, 0, 0, 0, 0);
        Check.programRun("0 - 2147483647 - 2", 2147483647, 0, 0, 0, 0);
        Check.programRun("65536 * 65536 + 65535 * 65537", -1, 0, 0, 0, 0);
        Check.programRun("if0 (0, 1, 2) * 10 + if0 (1 - 2, 3, 4)", 14, 0, 0, 0, 0);
        Check.programRun("let x = 1 in let x = x + 1 in x * 10 + (let x = 5 in x) + x", 27, 0, 0, 0, 0);
        Check.programRun("# 2 # 1 <<1, 2>, 3>", 2, 4, 0, 0, 0);
        Check.programRun("let t = <1, <>, <2>> in # 1 t + # 1 # 3 t", 3, 4, 0, 0, 0);
    }

    private static void closures() {
        Check.programRun("(fun x : int . x) 7", 7, 4, 1, 1, 1);
        Check.programRun("let a = 1 in let b = 2 in (fun x : int . a + b + a + x) 7", 11, 2 + 2 + 2, 1, 1, 1);
        // inside, x and y are captured from the call, and the inner call keeps nothing but where to go on
        Check.programRun("(fun x : int . fun y : int . fun z : int . x * 100 + y * 10 + z) 1 2 3", 123,
            2 + 2 + 3 + 2 + 4 + 2, 3, 3, 3);
        Check.programRun("(typ a . fun x : a . x) [int] 5", 5, 2 + 2 + 2 + 2, 2, 2, 2);
        Check.programRun("let f = fun x : int . x in 3", 3, 2, 0, 1, 0);
        // names of kinds are no variables
        Check.programRun("(typ a . typ b . fun x : a . x) [int] [int] 5", 5, 2 + 2 + 2 + 2 + 2 + 2, 3, 3, 3);
        Check.programRun("let x = 1 in (fun x : int . x) 2 + x", 3, 2 + 1 + 2, 1, 1, 1);
    }

    private static void kept() {
        String f = "let f = fun x : int . x in let a = 5 in let b = 6 in ";
        Check.programRun(f + "f 1", 1, 2 + 2, 1, 1, 1);
        Check.programRun(f + "f 1 + a", 6, 2 + 1 + 2, 1, 1, 1);
        Check.programRun(f + "f 1 + a * a + b", 32, 2 + 2 + 2, 1, 1, 1);
        Check.programRun(f + "a + f 1", 6, 2 + 1 + 2, 1, 1, 1);
        Check.programRun(f + "(a) + (f 1 + a)", 11, 2 + 1 + 2, 1, 1, 1);
        Check.programRun(f + "2 + f 1", 3, 2 + 2, 1, 1, 1);
        Check.programRun(f + "((2)) + f 1", 3, 2 + 2, 1, 1, 1);
        Check.programRun(f + "2 * 2 + f 1", 5, 2 + 1 + 2, 1, 1, 1);
        Check.programRun(f + "(let q = 2 in q) + f 1", 3, 2 + 1 + 2, 1, 1, 1);
        Check.programRun(f + "if0 (0, 2, 3) + f 1", 3, 2 + 1 + 2, 1, 1, 1);
        Check.programRun(f + "f 1 + f 2", 3, 2 + (1 + 2) + (1 + 2), 2, 1, 2);
        Check.programRun(f + "f (f 1)", 1, 2 + (1 + 2) + 2, 2, 1, 2);
        Check.programRun(f + "(fun y : int . y) (f 1)", 1, 2 + 2 + (1 + 2) + 2, 2, 2, 2);
        Check.programRun(f + "if0 (f 0, a, b)", 5, 2 + (2 + 2), 1, 1, 1);
        Check.programRun(f + "if0 (0, f 1, b)", 1, 2 + 2, 1, 1, 1);
        Check.programRun(f + "let c = f 1 in c + c + a", 7, 2 + (1 + 2), 1, 1, 1);
        Check.programRun(f + "# 3 <1, a, f 2, f 3>", 2, 2 + (2 + 2) + (2 + 2) + 4, 2, 1, 2);
        Check.programRun(f + "# 1 <f 1, # 1 <b>, f 3>", 1, 2 + (2 + 2) + 1 + (2 + 2) + 3, 2, 1, 2);
        Check.programRun(f + "a - (b - (a * b - f 1))", 28, 2 + (2 + 1 + 2), 1, 1, 1);
        // of the same name, but told at unlike places
        Check.programRun(f + "let a = f a + a in a", 10, 2 + (1 + 2), 1, 1, 1);
        Check.programRun(f + "a + (let a = 1 in f a + a)", 7, 2 + (2 + 2), 1, 1, 1);
        Check.programRun(f + "a + (let b = a in f b + a)", 15, 2 + (1 + 2), 1, 1, 1);
    }

    private static void lastThings() {
        String g = "let g = fun x : int . x in ";
        Check.programRun(g + "(fun y : int . g y) 1", 1, 2 + (1 + 2) + 2, 2, 2, 1);
        Check.programRun(g + "(fun y : int . (g y)) 1", 1, 2 + (1 + 2) + 2, 2, 2, 1);
        Check.programRun(g + "(fun y : int . g y + 0) 1", 1, 2 + (1 + 2) + 2 + (1 + 2), 2, 2, 2);
        Check.programRun(g + "(fun y : int . g (g y)) 1", 1, 2 + (1 + 2) + 2 + (2 + 2), 3, 2, 2);
        Check.programRun(g + "(fun y : int . let z = g y in z) 1", 1, 2 + (1 + 2) + 2 + (1 + 2), 2, 2, 2);
        Check.programRun(g + "(fun y : int . let z = 3 in g z) 1", 3, 2 + (1 + 2) + 2, 2, 2, 1);
        Check.programRun(g + "(fun y : int . if0 (y, 1, g y)) 1", 1, 2 + (1 + 2) + 2, 2, 2, 1);
        Check.programRun(g + "(fun y : int . if0 (g y, 1, 2)) 1", 2, 2 + (1 + 2) + 2 + (1 + 2), 2, 2, 2);
        Check.programRun(g + "(fun y : int . # 1 <g y>) 1", 1, 2 + (1 + 2) + 2 + (1 + 2) + 1, 2, 2, 2);
        Check.programRun(g + "(typ a . g 4) [int]", 4, 2 + (1 + 2) + 2, 2, 2, 1);
        Check.programRun("(fun f : all a . int . f [int]) (typ a . 4)", 4, 2 + 2 + 2, 2, 2, 1);
        Check.programRun("(fun f : all a . int . f [int] * 1) (typ a . 4)", 4, 2 + 2 + 2 + (1 + 2), 2, 2, 2);
    }

    private static void selves() {
        Check.programRun("(fix f (x : int) : int . x) 1", 1, 2 + 2, 1, 1, 1);
        Check.programRun("(fix f (x : int) : int . if0 (x, 7, f (x - 1))) 3", 7, 2 + 2 + 4 * 2, 4, 1, 1);
        Check.programRun("(fix f (f : int) : int . f) 1", 1, 2 + 2, 1, 1, 1);
        Check.programRun("(fix f (x : int) : int . let f = x in f) 1", 1, 2 + 2, 1, 1, 1);
        Check.programRun("let a = 10 in (fix f (x : int) : int . if0 (x, a, f (x - 1) + 1)) 2", 12,
            (1 + 2) + 2 + 3 * 2 + 2 * (1 + 2), 3, 1, 3);
        // its f is free in a function within
        Check.programRun("(fix f (x : int) : int . if0 (x, 1, (fun y : int . f (x - y)) 1)) 1", 1,
            2 + 2 + 2 * 2 + (2 + 2), 3, 2, 1);
    }

    private static void rowAfterRow() {
        String text = "let a = 1 in let b = 2 in let f = fun x : int . a + b + x in f 3 + a + b";
        int[] made = {0, 0, 2, 2, 4, 4, 6, 6, 8};
        for (int heap = 0; heap < made.length; heap++) {
            TypedDescent x = new TypedDescent();
            Check.program(x, text);
            Check.due("end of " + heap, x.run(20000, heap), heap < 8 ? 2 : 0);
            Check.due("value of " + heap, x.value(), heap < 8 ? 0 : 9);
            Check.due("words of " + heap, x.count(0), made[heap]);
            Check.due("calls of " + heap, x.count(1), heap < 8 ? 0 : 1);
            Check.due("met of " + heap, x.count(2), 1);
            Check.due("not last of " + heap, x.count(3), heap < 8 ? 0 : 1);
        }
        outAt("# 1 <1, 2, 3>", 2, 0, 0, 0, 0);
        outAt("(fix f (x : int) : int . f x) 1", 5, 4, 1, 1, 1);
        outAt("(fix f (x : int) : int . f x) 1", 7, 6, 2, 1, 1);
        outAt("(fix f (x : int) : int . f x + 1) 1", 8, 7, 1, 1, 1);
    }

    private static void outAt(String text, int heap, int words, int calls, int met, int notLast) {
        TypedDescent x = new TypedDescent();
        Check.program(x, text);
        Check.due("end of " + text, x.run(20000, heap), 2);
        Check.due("value of " + text, x.value(), 0);
        Check.due("words of " + text, x.count(0), words);
        Check.due("calls of " + text, x.count(1), calls);
        Check.due("met of " + text, x.count(2), met);
        Check.due("not last of " + text, x.count(3), notLast);
    }

    private static void fuel() {
        TypedDescent x = new TypedDescent();
        Check.program(x, "(fix f (x : int) : int . if0 (x, 7, f (x - 1))) 19999");
        Check.due("just as many", x.run(20000, 20000), 2);
        Check.program(x, "let f = fix f (n : int) : int . if0 (n, 5, f (n - 1)) in f 9989");
        Check.due("ends", x.run(9990, 20000), 0);
        Check.due("value", x.value(), 5);
        Check.due("words", x.count(0), 4 + 2 * 9990);
        Check.due("calls", x.count(1), 9990);
        Check.due("a call less", x.run(9989, 20000), 1);
        Check.due("no value", x.value(), 0);
        Check.due("calls", x.count(1), 9989);
        Check.due("not last", x.count(3), 1);
        Check.due("none at all", x.run(0, 20000), 1);
        Check.due("words ahead of the call", x.count(0), 4);
        Check.due("calls", x.count(1), 0);
        Check.due("not last", x.count(3), 0);
        Check.due("words ahead of the call", x.run(0, 3), 2);
        Check.due("ends again", x.run(20000, 20000), 0);
        Check.due("value", x.value(), 5);
        Check.program(x, "(typ a . fix f (x : int) : int . f x) [int] 1");
        Check.due("endless", x.run(20000, 20000), 2);
        Check.due("words", x.count(0), 20000);
        Check.program(x, "let d = fun f : int -> int . fun x : int . f (f x) in let e = fun g : (int -> int)"
            + " -> int -> int . g in e d (d (d (fun x : int . x + 1))) 3");
        Check.due("ends", x.run(20000, 20000), 0);
        Check.due("value", x.value(), 11);
        Check.program(x, "1 + 2");
        Check.due("without calls", x.run(0, 0), 0);
        Check.due("value", x.value(), 3);
        deep();
    }

    /** As many calls open at once as the words let be: 2 + 2 for the first, then 2 and 3 for each. */
    private static void deep() {
        TypedDescent x = new TypedDescent();
        Check.program(x, "(fix f (n : int) : int . if0 (n, 0, 1 + f (n - 1))) 3998");
        Check.due("deep", x.run(20000, 20000), 0);
        Check.due("value", x.value(), 3998);
        Check.due("words", x.count(0), 2 + 2 + 3999 * 2 + 3998 * 3);
        Check.program(x, "(fix f (n : int) : int . if0 (n, 0, 1 + f (n - 1))) 3999");
        Check.due("deeper", x.run(20000, 20000), 2);
    }

    private static void refused() {
        TypedDescent x = new TypedDescent();
        Check.due("nothing is loaded", x.run(1, 1), -1);
        Check.program(x, "<(fun x : int . x) 4>");
        Check.due("no int", x.run(1, 1), -1);
        Check.program(x, "fun x : int . x");
        Check.due("no int", x.run(1, 1), -1);
        Check.program(x, "(fun x : int . x) 4");
        Check.due("value ahead of a run", x.value(), 0);
        Check.due("words ahead of a run", x.count(0), 0);
        Check.due("a run", x.run(10, 10), 0);
        int[][] wrong = {{-1, 10}, {20001, 10}, {10, -1}, {10, 20001},
            {Integer.MIN_VALUE, 1}, {1, Integer.MAX_VALUE}};
        for (int[] of : wrong) {
            Check.due("refused", x.run(of[0], of[1]), -1);
            Check.due("value", x.value(), 4);
            Check.due("words", x.count(0), 4);
            Check.due("calls", x.count(1), 1);
            Check.due("met", x.count(2), 1);
            Check.due("not last", x.count(3), 1);
        }
        Check.due("no registers", x.register(1), 0);
        Check.due("no heap", x.heap(0), 0);
        Check.due("refused", x.program(100), -1);
        Check.due("the value stays", x.value(), 4);
        Check.program(x, "5");
        Check.due("not of this text", x.value(), 0);
        Check.due("not of this text", x.count(0), 0);
        Check.due("not of this text", x.count(2), 0);
    }
}
