/** Promises 3 and 5: the faults of programs and their places, which a ^ marks. */
public final class ProgramFaults {
    public static void main(String[] args) {
        tokens();
        syntax();
        roomOfTokens();
        roomOfOpen();
        roomOfParts();
        names();
        kinds();
        large();
        order();
        reading();
        Check.end();
    }

    private static void tokens() {
        Check.programMarked("let abcdefghij = 1 in abcdefghij", 0);
        Check.programMarked("let ^abcdefghijk = 1 in 1", 1);
        Check.programMarked("2147483647", 0);
        Check.programMarked("^2147483648", 1);
        Check.programMarked("00000000000000000007", 0);
        Check.programMarked("^99999999999999999999999999", 1);
        Check.programMarked("^1x", 1);
        Check.programMarked("1 + ^2a", 1);
        Check.programMarked("let r1 = 2 in r1", 0);
        Check.programMarked("% a comment, with @ in it\n 1 % and one more", 0);
        Check.programMarked("1\t+\r\n2", 0);
        Check.programMarked("1 +^\u000b 2", 1);
        Check.programMarked("1 ^@", 1);
        Check.programMarked("1 ^\u00e4", 1);
        Check.programMarked("1 ^\0", 1);
        Check.programMarked("1 ^->", 1);
        Check.programMarked("1 - ^> 2", 1);
        Check.programMarked("fun x : int ^- > int . x", 1);
        Check.programMarked("fun x:int->int.x", 0);
        Check.programMarked("^1(2)", 4);
        Check.programMarked("^funx", 3);
    }

    private static void syntax() {
        Check.programMarked("^", 1);
        Check.programMarked("   % nothing^", 1);
        Check.programMarked("1 +^", 1);
        Check.programMarked("1 + ^+ 2", 1);
        Check.programMarked("^- 1", 1);
        Check.programMarked("(1^", 1);
        Check.programMarked("1 ^)", 1);
        Check.programMarked("<1, ^>", 1);
        Check.programMarked("1 + ^fun x : int . x", 1);
        Check.programMarked("fun ^in : int . 1", 1);
        Check.programMarked("fun x ^. 1", 1);
        Check.programMarked("fun x : ^1 . 1", 1);
        Check.programMarked("fix f ^x : int . 1", 1);
        Check.programMarked("fix f (x : int) ^. 1", 1);
        Check.programMarked("typ a ^: 1", 1);
        Check.programMarked("let x ^: 1 in x", 1);
        Check.programMarked("let x = 1^", 1);
        Check.programMarked("# ^x <1>", 1);
        Check.programMarked("# ^0 <1>", 1);
        Check.programMarked("# 1^", 1);
        Check.programMarked("if0 ^1", 1);
        Check.programMarked("if0 (1, 2^)", 1);
        Check.programMarked("if0 (1, 2, 3^, 4)", 1);
        Check.programMarked("1 [int^", 1);
        Check.programMarked("1 [^]", 1);
        Check.programMarked("fun x : all ^int . int . x", 1);
        Check.programMarked("1 ^in", 1);
        Check.programMarked("1 ^;", 1);
        Check.programMarked("1 ^{", 1);
    }

    private static void roomOfTokens() {
        String most = Check.repeated("1+", 199) + "1+";
        Check.programFault(most.substring(0, 399), 0, -1);
        Check.programFault(most + "1", 2, 400);
        Check.programFault(most + "+", 1, 400);
        Check.programFault(most + "@", 1, 400);
        Check.programFault(most, 1, 400);
        Check.programFault(Check.repeated("0 ", 400), 4, 0);
        Check.programFault(Check.repeated("0 ", 401), 2, 800);
        Check.programFault(Check.repeated("0 ", 400) + ")", 1, 800);
    }

    private static void roomOfOpen() {
        nested("(", "1", ")", 0);
        nested("<", "1", ">", 0);
        nested("#1<", "1", ">", 10);
        nested("fun x:int.", "1", "", 0);
        nested("typ a.", "1", "", 0);
        nested("let x=1 in ", "1", "", 0);
        Check.programMarked(Check.repeated("let x = ", 20) + "1" + Check.repeated(" in 1", 20), 0);
        Check.programMarked(Check.repeated("let x = ", 20) + "^let x = 1 in 1"
            + Check.repeated(" in 1", 20), 2);
        Check.programMarked("fun f : " + Check.repeated("int -> ", 19) + "int . 1", 0);
        Check.programMarked("fun f : " + Check.repeated("int -> ", 19) + "int ^-> int . 1", 2);
        Check.programMarked("fun f : " + Check.repeated("all a . ", 19) + "a . 1", 0);
        Check.programMarked("fun f : " + Check.repeated("all a . ", 19) + "^all a . a . 1", 2);
        Check.programMarked(Check.repeated("(", 18) + "fix f (x : int) : int . x"
            + Check.repeated(")", 18), 0);
        Check.programMarked(Check.repeated("(", 19) + "fix f ^(x : int) : int . x"
            + Check.repeated(")", 19), 2);
        Check.programMarked(Check.repeated("(", 20) + "if0 ^(1, 2, 3)" + Check.repeated(")", 20), 2);
        Check.programMarked(Check.repeated("(", 20) + "^typ 1" + Check.repeated(")", 20), 2);
        Check.programMarked(Check.repeated("(", 20) + "^]", 1);
        Check.programMarked(Check.repeated("(", 20) + "x ^[int]" + Check.repeated(")", 20), 2);
        Check.programMarked(Check.repeated("# 1 ", 20) + "^# 1 <1>", 2);
        StringBuilder closed = new StringBuilder("1");
        for (int i = 0; i < 60; i++) {
            closed.append("+((1))");
        }
        Check.programFault(closed.toString(), 0, -1);
    }

    /** A kind or KIND fault is of no matter here: twenty are no ROOM fault, one more is one. */
    private static void nested(String left, String inner, String right, int twice) {
        int most = twice == 0 ? 20 : twice;
        Check.programMarked(Check.repeated(left, most) + inner + Check.repeated(right, most), 0);
        Check.programMarked(Check.repeated(left, most) + "^" + left + inner
            + Check.repeated(right, most + 1), 2);
    }

    private static void roomOfParts() {
        Check.programMarked("<1, 1, 1, 1, 1, 1, 1, 1>", 0);
        Check.programMarked("<1, 1, 1, 1, 1, 1, 1, 1, ^1>", 2);
        Check.programMarked("<1, 1, 1, 1, 1, 1, 1, 1, ^>", 1);
        Check.programMarked("<1, 1, 1, 1, 1, 1, 1, 1, ^(1>", 2);
        Check.programMarked("fun x : <int, int, int, int, int, int, int, int> . 1", 0);
        Check.programMarked("fun x : <int, int, int, int, int, int, int, int, ^all a . a> . 1", 2);
        Check.programMarked("# 8 <1, 1, 1, 1, 1, 1, 1, 1>", 0);
        Check.programMarked("# ^9 <1, 1, 1, 1, 1, 1, 1, 1>", 2);
        Check.programMarked("^# 8 <1>", 4);
    }

    private static void names() {
        Check.programMarked("^x", 3);
        Check.programMarked("fun x : int . ^y", 3);
        Check.programMarked("let x = ^x in x", 3);
        Check.programMarked("(fun x : int . x) ^x", 3);
        Check.programMarked("fun x : ^a . x", 3);
        Check.programMarked("fun x : all a . a -> ^b . x", 3);
        Check.programMarked("fun x : (all a . a) -> ^a . x", 3);
        Check.programMarked("<typ a . fun x : a . x, fun x : ^a . x>", 3);
        Check.programMarked("fun a : int . fun b : ^a . b", 3);
        Check.programMarked("typ a . ^a", 3);
        Check.programMarked("fix f (x : int) : ^s . x", 3);
        Check.programMarked("(typ a . 1) [^a]", 3);
        Check.programMarked("fix f (f : int) : int . f", 0);
        Check.programMarked("fix f (f : int) : int . ^f 1", 4);
        Check.programMarked("typ a . fun x : a . typ a . fun y : a . x", 0);
        Check.programMarked("fun x : int . let x = <x> in # 1 x + 1", 0);
    }

    private static void kinds() {
        Check.programMarked("^1 2", 4);
        Check.programMarked("^(1) 2", 4);
        Check.programMarked("^1 [int]", 4);
        Check.programMarked("^(typ a . 1) 2", 4);
        Check.programMarked("^(fun x : int . x) [int]", 4);
        Check.programMarked("(fun x : int . x) ^<>", 4);
        Check.programMarked("^(fun x : int . x) 1 2", 4);
        Check.programMarked("^<> + 1", 4);
        Check.programMarked("1 - ^<>", 4);
        Check.programMarked("1 * ^<> * 2", 4);
        Check.programMarked("1 + 2 * ^<>", 4);
        Check.programMarked("1 + ^(fun x : int . <x>) 1", 4);
        Check.programMarked("if0 (^<>, 1, 2)", 4);
        Check.programMarked("if0 (1, <>, ^2)", 4);
        Check.programMarked("fix f (x : int) : int . ^<x>", 4);
        Check.programMarked("^# 1 2", 4);
        Check.programMarked("1 + ^# 3 <1, 2>", 4);
        Check.programMarked("^# 1 <>", 4);
        Check.programMarked("(fun f : all a . a -> a . f [int] 1) (typ b . fun x : b . x)", 0);
        Check.programMarked("(fun f : all a . a -> a . 1) ^(typ b . fun x : int . x)", 4);
        Check.programMarked("(fun f : all a . all b . a . 1) ^(typ a . typ b . fix f (x : int) : b . f x)", 4);
        Check.programMarked("(fun f : all a . all b . <a, b> -> a . 1) (typ b . typ a . fun p : <b, a> . # 1 p)", 0);
        Check.programMarked("(fun f : all a . all b . <a, b> -> a . 1) ^(typ b . typ a . fun p : <b, a> . # 2 p)", 4);
        Check.programMarked("typ a . fun x : a . typ b . fun y : b . if0 (1, x, ^y)", 4);
        Check.programMarked("typ a . fun f : all b . a -> b . fun x : a . f [all c . a -> c] x [int] x + 1", 0);
    }

    private static void large() {
        // 8 * (1 + 8) + 1 = 73 parts, and 7 more
        String eight = "<1, 1, 1, 1, 1, 1, 1, 1>";
        String row = "let a = " + eight + " in let b = <a, a, a, a, a, a, a, a> in ";
        Check.programMarked(row + "<b, 1, 1, 1, 1, 1, 1>", 0);
        Check.programMarked(row + "^<b, 1, 1, 1, 1, 1, 1, 1>", 5);
        Check.programMarked(row + "^<b, <1, 1, 1, 1, 1, 1>>", 5);
        Check.programMarked(row + "^<b, b> + 1", 5);
        Check.programMarked(row + "(fun x : int . x) ^<b, b>", 5);
        Check.programMarked(row + "let c = ^<b, b> in c c", 5);
        Check.programMarked(row + "^fun x : int . <b, 1, 1, 1, 1, 1, 1>", 5);
        Check.programMarked(row + "^typ q . <b, 1, 1, 1, 1, 1, 1>", 5);
        Check.programMarked(row + "# 1 ^<b, b>", 5);
        Check.programMarked(row + "(^<b, b>)", 5);
        String wide = "<int, int, int, int, int, int, int, int>";
        String kind = "<" + wide + Check.repeated(", " + wide, 7) + ">";
        Check.programMarked("^(typ a . fun x : a . <x, x>) [" + kind + "]", 5);
        Check.programMarked("(typ a . fun x : a . 1) [" + kind + "]", 0);
        Check.programMarked("fun x : <" + kind + ", " + kind + "> . ^x", 5);
        Check.programMarked("^fun x : <" + kind + ", " + kind + "> . 1", 5);
        Check.programMarked("^fix f (x : <" + kind + ", " + kind + ">) : int . 1", 5);
        Check.programMarked("fix f (x : <" + kind + ", " + kind + ">) : int . ^f", 5);
        Check.programMarked("fix f (x : <" + kind + ", " + kind + ">) : int . ^<>", 4);
        // all counts one: 80 parts, then 81
        String alls = "typ a . typ b . typ c . ";
        Check.programMarked(row + alls + "<b, 1, 1, 1>", 0);
        Check.programMarked(row + "^" + alls + "<b, 1, 1, 1, 1>", 5);
    }

    private static void order() {
        Check.programMarked("<x> ^@", 1);
        Check.programMarked("x + " + "<1, 1, 1, 1, 1, 1, 1, 1, ^1>", 2);
        Check.programMarked("^x + <> + y", 3);
        Check.programMarked("^<> + x", 4);
        Check.programMarked("^1 x", 4);
        Check.programMarked("^1 [a]", 4);
        Check.programMarked("(fun f : int . f) (^x 1)", 3);
        Check.programMarked("fun x : ^a . x y", 3);
        Check.programMarked("<^1 2, x>", 4);
        Check.programMarked("# 3 <^x>", 3);
        Check.programMarked("if0 (<^x>, 1, <>)", 3);
        Check.programMarked("(fun x : int . ^x 1) <>", 4);
    }

    private static void reading() {
        TypedDescent x = new TypedDescent();
        Check.due("a fault", Check.program(x, "1 + x"), 3);
        Check.due("its place", x.place(), 4);
        Check.due("a refused reading", x.program(1), -1);
        Check.due("leaves the place", x.place(), 4);
        Check.due("none", Check.program(x, "1"), 0);
        Check.due("no place", x.place(), -1);
        Check.due("a program", x.count(4), 1);
        Check.due("runs", x.run(1, 1), 0);
        Check.due("a fault again", Check.program(x, "(1"), 1);
        Check.due("its place", x.place(), 2);
        Check.due("nothing is loaded", x.count(4), 0);
        Check.due("nothing runs", x.run(1, 1), -1);
        Check.due("no value", x.value(), 0);
        Check.due("no kind", x.kind(0), -1);
    }
}
