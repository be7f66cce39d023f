/** The FAULTS of programs: each bound of the document at its last that is allowed and its first that is not. */
public final class ProgramEdges {
    private static final int MOST_OPEN = 20;

    public static void main(String[] args) {
        empty();
        tokens();
        open();
        openEnds();
        parts();
        partNumbers();
        nameScopes();
        kindNameScopes();
        kindPlaces();
        partsThatAreThere();
        large();
        largeSubstitutes();
        partsOfKinds();
        nothingMoreIsAsked();
        leastNumber();
        leftmost();
        chains();
        Check.end();
    }

    /** "of the end, how many bytes the text has". */
    private static void empty() {
        Check.programFault("", 1, 0);
        Check.programFault(" ", 1, 1);
        Check.programFault("\n%", 1, 2);
        Check.programFault("<>", 0, -1);
        Check.programFault("fun x:<>.x", 0, -1);
        Check.programFault("()", 1, 1);
        Check.programFault("(", 1, 1);
        Check.programFault("( ", 1, 2);
        Check.programFault("fun x:().x", 1, 7);
    }

    /** "a 401st token". */
    private static void tokens() {
        String even = "if0(1,2,3)" + "+1".repeat(196);
        Check.programFault(even, 0, -1);
        Check.programFault(even + " \n% is no token", 0, -1);
        Check.programFault("%is no token\n" + even, 0, -1);
        Check.programFault(even + "+", 2, even.length());
        Check.programFault(even + "  +", 2, even.length() + 2);
        Check.programFault(even + "+1", 2, even.length());
        Check.programFault(even + " 1", 2, even.length() + 1);
        Check.programFault(even + "(", 2, even.length());
        Check.programFault(even + "<", 2, even.length());
        Check.programFault(even + "#", 2, even.length());
        Check.programFault(even + "[", 2, even.length());
        Check.programFault(even + " x", 2, even.length() + 1);
        Check.programFault(even + " if0", 2, even.length() + 1);
        Check.programFault(even + "+ @", 2, even.length());
        String[] wrong = {")", "in", ".", "fun", "?", "@", "2147483648", "abcdefghijk", "->"};
        for (String token : wrong) {
            Check.programFault(even + " " + token, 1, even.length() + 1);
        }
        String odd = "1" + "+1".repeat(199);
        Check.programFault(odd, 0, -1);
        Check.programFault(odd + "+", 1, odd.length() + 1);
        Check.programFault(odd + "+1", 2, odd.length() + 1);
        Check.programFault("(" + odd + ")", 2, odd.length() + 1);
        Check.programFault(odd + "+)", 1, odd.length() + 1);
    }

    /** At the limit there is no fault, with one more ahead of it the one at the mark is ROOM. */
    private static void limit(int own, String marked) {
        Check.programMarked("typ q.".repeat(MOST_OPEN - own) + marked.replace("^", ""), 0);
        Check.programMarked("typ q.".repeat(MOST_OPEN + 1 - own) + marked, 2);
    }

    /** "a 21st that is open of ( [ < #, and fun, fix, typ, let, all, ->". */
    private static void open() {
        limit(1, "^(1)");
        limit(1, "^<>");
        limit(1, "^<1>");
        limit(1, "^typ b.1");
        limit(1, "^let x=1 in 2");
        limit(1, "^fun x:int.1");
        limit(1, "if0^(1,2,3)");
        limit(2, "let x=^(1) in 2");
        limit(2, "let x=1 in ^(2)");
        limit(2, "let x=1 in ^let y=2 in 3");
        limit(2, "let x=^let y=2 in 3 in 1");
        limit(2, "fun x:^(int).1");
        limit(2, "fun x:^<>.1");
        limit(2, "fun x:^<int>.1");
        limit(2, "fun x:^all b.b.1");
        limit(2, "fun x:int^->int.1");
        limit(2, "fun x:int.^(1)");
        limit(2, "fun x:int.^fun y:int.1");
        limit(2, "typ b.^(1)");
        limit(2, "fix f^(x:int):int.1");
        limit(3, "fix f(x:^(int)):int.1");
        limit(3, "fix f(x:int^->int):int.1");
        limit(3, "fix f(x:int):(^(int)).1");
        limit(3, "fix f(x:int):int.(^(1))");
        limit(2, "#1 ^<1>");
        limit(3, "fun p:<int>.(^#1 p)");
        limit(4, "#1 #1 <^<1>>");
        limit(4, "fun g:(all b.int).((g^[int]))");
        limit(5, "fun g:(all b.int).((g[^<int>]))");
        limit(2, "if0(^(1),2,3)");
        limit(2, "if0(1,^(2),3)");
        limit(2, "if0(1,2,^(3))");
        limit(3, "fun x:all b.^all c.b.1");
        limit(3, "fun x:int->int^->int.1");
        limit(3, "fun x:(int^->int)->int.1");
        // up to the end of what they stand ahead of
        limit(3, "fun x:all b.b^->b.1");
        limit(3, "fun x:int->^<>.1");
        limit(3, "fun x:int->^all b.b.1");
        // fix with its ( as the 21st, and as the 22nd
        Check.programMarked("typ q.".repeat(20) + "^fix f(x:int):int.1", 2);
        Check.programMarked("#1 ".repeat(20) + "^<1>", 2);
        Check.programMarked("#1 ".repeat(20) + "^#1 1", 2);
        Check.programMarked("(".repeat(20) + "^((1" + ")".repeat(22), 2);
    }

    private static void withinLimit(int own, String text) {
        Check.programFault("typ q.".repeat(MOST_OPEN - own) + text, 0, -1);
    }

    /** What has come to its end is open no more. */
    private static void openEnds() {
        withinLimit(1, "(1)+(1)*(1)-(1)");
        withinLimit(1, "if0(1,2,3)+if0(1,2,3)");
        withinLimit(2, "<(1),(1),<>,<1>>");
        withinLimit(2, "if0((1),(2),(3))");
        withinLimit(2, "#1<1>+#1<2>*#1<3>");
        withinLimit(3, "(fun x:<>.1)<>+(fun x:<>.1)<>");
        withinLimit(3, "(fun x:(int).x)1+(fun x:(int).x)1");
        withinLimit(3, "#1<fun x:int.x,fun x:int.x>1");
        withinLimit(2, "<fun x:int.x,fun x:int.x,1>");
        withinLimit(2, "<typ a.1,typ a.1,1>");
        withinLimit(2, "<let x=1 in x,let x=1 in x,1>");
        withinLimit(3, "<fix f(x:int):int.x,fix f(x:int):int.x>");
        withinLimit(2, "(typ b.1)[int]+(typ b.2)[int]");
        withinLimit(2, "(fun x:int.x)1+(fun x:int.x)1");
        withinLimit(3, "fun x:<int->int,int->int,all a.a,all a.a>.1");
        withinLimit(3, "fun x:(int->int)->int.1");
        withinLimit(3, "fun x:(all a.a)->int.1");
        withinLimit(3, "fix f(x:(int)):(int).(1)");
        withinLimit(2, "let x=(1) in (2)");
        withinLimit(2, "let x=let y=1 in 2 in let z=3 in 4");
        withinLimit(2, "if0(let x=1 in x,let x=1 in x,let x=1 in x)");
    }

    private static String row(String part, int n) {
        return "<" + (n == 0 ? "" : part + ("," + part).repeat(n - 1)) + ">";
    }

    /** "a 9th part of a < >". */
    private static void parts() {
        for (int n = 0; n <= 8; n++) {
            Check.programFault(row("1", n), 0, -1);
            Check.programFault("fun x:" + row("int", n) + ".1", 0, -1);
        }
        Check.programFault(row("1", 9), 2, 17);
        Check.programFault(row("1", 10), 2, 17);
        Check.programFault(row("int", 9).replace("<", "fun x:<") + ".1", 2, 7 + 8 * 4);
        String eight = row("1", 8).replace(">", "");
        String[] ninth = {"x", "(1)", "<>", "#1 1", "if0(1,2,3)", "fun x:int.x", "fix f(x:int):int.x", "typ a.1",
            "let x=1 in x"};
        for (String part : ninth) {
            Check.programFault(eight + "," + part + ">", 2, eight.length() + 1);
            Check.programFault(eight + ", " + part, 2, eight.length() + 2);
        }
        String kinds = "fun x:" + row("int", 8).replace(">", "");
        for (String part : new String[] {"int", "a", "all a.a", "<>", "(int)"}) {
            Check.programFault(kinds + "," + part + ">.1", 2, kinds.length() + 1);
        }
        for (String part : new String[] {">", ",", ")", ".", "in", "@", ""}) {
            Check.programFault(eight + "," + part, 1, eight.length() + 1);
            Check.programFault(kinds + "," + part, 1, kinds.length() + 1);
        }
        Check.programFault(kinds + ",1", 1, kinds.length() + 1);
        // each < > counts its own
        Check.programFault(row(row("1", 8), 8), 0, -1);
        Check.programFault("<" + eight + ">,1,1,1,1,1,1,1>", 0, -1);
        Check.programMarked("<" + eight + ">,1,1,1,1,1,1,1,^1>", 2);
        Check.programMarked("<1,1,1,1,1,1,1," + eight + ",^1>>", 2);
    }

    /** "the number behind # above 8 (0: SYNTAX)". */
    private static void partNumbers() {
        for (int k = 1; k <= 8; k++) {
            Check.programFault("#" + k + row("1", 8), 0, -1);
        }
        Check.programMarked("#^0<1>", 1);
        Check.programMarked("#^00<1>", 1);
        Check.programMarked("#^9<1>", 2);
        Check.programMarked("#^10<1>", 2);
        Check.programMarked("#^2147483647<1>", 2);
        Check.programMarked("#^2147483648<1>", 1);
        Check.programMarked("#08" + row("1", 8), 0);
        Check.programMarked("#^09<1>", 2);
        Check.programMarked("#^9", 2);
        Check.programMarked("#8^", 1);
        Check.programMarked("#^-1<1>", 1);
        Check.programMarked("#^", 1);
    }

    /** "a name that is not there": where it begins to be there, and where it ends. */
    private static void nameScopes() {
        Check.programMarked("fun x:int.x", 0);
        Check.programMarked("(fun x:int.x)^x", 3);
        Check.programMarked("let x=1 in x", 0);
        Check.programMarked("let x=^x in x", 3);
        Check.programMarked("(let x=1 in x)+^x", 3);
        Check.programMarked("<let x=1 in x,^x>", 3);
        Check.programMarked("if0(let x=1 in x,^x,1)", 3);
        Check.programMarked("let y=let x=1 in x in ^x", 3);
        Check.programMarked("fix f(x:int):int.f x", 0);
        Check.programMarked("(fix f(x:int):int.f x)(^f 1)", 3);
        Check.programMarked("(fix f(x:int):int.f x)^x", 3);
        Check.programMarked("typ a.^a", 3);
        Check.programMarked("typ a.let a=1 in a", 0);
        // the innermost one
        Check.programMarked("fun x:<>.fun x:int.x+1", 0);
        Check.programMarked("fun x:int.fun x:<>.^x+1", 4);
        Check.programMarked("let x=<> in (let x=1 in x)+^x", 4);
        Check.programMarked("fix x(x:int):int.x", 0);
        Check.programMarked("fix x(x:int):int.^x 1", 4);
        Check.programMarked("let x=1 in let x=<x,x> in #2 x+1", 0);
    }

    /** "(a kind's: of no typ or all around it)". */
    private static void kindNameScopes() {
        Check.programMarked("typ a.fun x:a.x", 0);
        Check.programMarked("fun x:^a.x", 3);
        Check.programMarked("(typ a.1)[^a]", 3);
        Check.programMarked("typ a.(typ b.1)[a]", 0);
        Check.programMarked("<typ a.fun x:a.x,fun x:^a.x>", 3);
        Check.programMarked("fun x:all a.a.x", 0);
        Check.programMarked("fun x:all a.^b.x", 3);
        Check.programMarked("fun x:<all a.a,^a>.x", 3);
        Check.programMarked("fun x:(all a.a)->^a.x", 3);
        Check.programMarked("fun x:^a->all a.a.x", 3);
        Check.programMarked("fun x:all a.a.fun y:^a.y", 3);
        Check.programMarked("fun a:int.fun x:^a.x", 3);
        Check.programMarked("fix f(x:^f):int.1", 3);
        Check.programMarked("fix f(x:int):^x.1", 3);
        Check.programMarked("let a=1 in fun x:^a.x", 3);
        Check.programMarked("fun x:int.^int1", 3);
        // the innermost one
        Check.programMarked("typ a.fun x:a.typ a.fun y:a.if0(1,y,^x)", 4);
        Check.programMarked("typ a.fun x:all a.a.fun y:a.if0(1,y,x[a])", 0);
    }

    /** "at the first token of an e that is not as it must be". */
    private static void kindPlaces() {
        Check.programMarked("1+(^(1)(2))", 4);
        Check.programMarked("let f=fun x:int.x in ^f 1 2", 4);
        Check.programMarked("let f=fun x:int.x in f ^f", 4);
        Check.programMarked("let f=fun x:int.x in ^f[int]", 4);
        Check.programMarked("let g=typ a.1 in ^g 1", 4);
        Check.programMarked("let g=typ a.1 in ^g[int][int]", 4);
        Check.programMarked("let g=typ a.1 in ^g[int]1", 4);
        Check.programMarked("let t=<1> in ^t+1", 4);
        Check.programMarked("let t=<1> in 1+2+^t", 4);
        Check.programMarked("let t=<1> in ^t*1", 4);
        Check.programMarked("let t=<1> in 1*^t", 4);
        Check.programMarked("let t=<1> in 1-#1 t*^t", 4);
        Check.programMarked("let t=<1> in if0(^t,1,2)", 4);
        Check.programMarked("let t=<1> in if0(1,t,^2)", 4);
        Check.programMarked("let t=<1> in if0(1,2,^t)", 4);
        Check.programMarked("let t=<1> in if0(1,t,<2>)", 0);
        Check.programMarked("let t=<1> in if0(1,t,^<>)", 4);
        Check.programMarked("let t=<1> in if0(1,t,^<2,3>)", 4);
        Check.programMarked("fix f(x:int):<>.<>", 0);
        Check.programMarked("fix f(x:int):<>.^x", 4);
        Check.programMarked("fix f(x:int):int->int.^f", 4);
        Check.programMarked("fix f(x:int):int.^f+1", 4);
        Check.programMarked("fun x:int->int.x ^x", 4);
        Check.programMarked("(fun x:all a.a->a.1)(typ b.fun y:b.y)", 0);
        Check.programMarked("(fun x:all a.a->a.1)^(typ b.fun y:b.1)", 4);
        Check.programMarked("(fun x:all a.all b.a->b.1)^(typ a.fun x:a.typ b.fun y:b.x)", 4);
    }

    /** "at a # whose first has no such part": the k-th, from 1 on. */
    private static void partsThatAreThere() {
        for (int n = 0; n <= 8; n++) {
            for (int k = 1; k <= 8; k++) {
                Check.programMarked((k <= n ? "" : "1+^") + "#" + k + row("1", n), k <= n ? 0 : 4);
            }
        }
        Check.programMarked("^#1 1", 4);
        Check.programMarked("^#1(fun x:int.x)", 4);
        Check.programMarked("^#1 #1<1>", 4);
        Check.programMarked("#1 ^#2<<1>>", 4);
        Check.programMarked("typ a.fun x:a.^#1 x", 4);
    }

    /** "LARGE: an e whose kind has more than 80 parts". */
    private static void large() {
        Check.programMarked(Check.valueOfParts(80), 0);
        Check.programMarked("^" + Check.valueOfParts(81), 5);
        Check.programMarked("(^" + Check.valueOfParts(81) + ")", 5);
        Check.programMarked("fun x:" + Check.kindOfParts(78) + ".1", 0);
        Check.programMarked("^fun x:" + Check.kindOfParts(79) + ".1", 5);
        Check.programMarked("fun x:int." + Check.valueOfParts(78), 0);
        Check.programMarked("^fun x:int." + Check.valueOfParts(79), 5);
        Check.programMarked("fix f(x:" + Check.kindOfParts(78) + "):int.1", 0);
        Check.programMarked("^fix f(x:" + Check.kindOfParts(79) + "):int.1", 5);
        Check.programMarked("fix f(x:" + Check.kindOfParts(78) + "):int.let g=f in 1", 0);
        Check.programMarked("fix f(x:" + Check.kindOfParts(79) + "):int.let g=^f in 1", 5);
        Check.programMarked("fix f(x:int):" + Check.kindOfParts(78) + ".f x", 0);
        Check.programMarked("fix f(x:int):" + Check.kindOfParts(79) + ".^f x", 5);
        Check.programMarked("typ a." + Check.valueOfParts(79), 0);
        Check.programMarked("^typ a." + Check.valueOfParts(80), 5);
        Check.programMarked("let x=" + Check.valueOfParts(80) + " in x", 0);
        Check.programMarked("let x=^" + Check.valueOfParts(81) + " in x", 5);
        Check.programMarked("let x=1 in ^" + Check.valueOfParts(81), 5);
        // of 80 parts the name is none too many, of 81 it is
        Check.programMarked("^fun x:" + Check.kindOfParts(80) + ".x", 5);
        Check.programMarked("fun x:" + Check.kindOfParts(81) + ".^x", 5);
        Check.programMarked("if0(0," + Check.valueOfParts(80) + "," + Check.valueOfParts(80) + ")", 0);
        Check.programMarked("if0(0,^" + Check.valueOfParts(81) + ",1)", 5);
        Check.programMarked("if0(^" + Check.valueOfParts(81) + ",1,1)", 5);
        Check.programMarked("if0(0,1,^" + Check.valueOfParts(81) + ")", 5);
        Check.programMarked("#1 " + Check.valueOfParts(80), 0);
        Check.programMarked("#1 ^" + Check.valueOfParts(81), 5);
        Check.programMarked("<1,^" + Check.valueOfParts(81) + ">", 5);
        Check.programMarked("(fun x:int.x)^" + Check.valueOfParts(81), 5);
    }

    /** "with t in place of a" an e of few parts may become one of many. */
    private static void largeSubstitutes() {
        Check.programMarked("(typ a.fun x:a.1)[" + Check.kindOfParts(78) + "]", 0);
        Check.programMarked("^(typ a.fun x:a.1)[" + Check.kindOfParts(79) + "]", 5);
        Check.programMarked("(typ a.fun x:a.x)[" + Check.kindOfParts(39) + "]", 0);
        Check.programMarked("^(typ a.fun x:a.x)[" + Check.kindOfParts(40) + "]", 5);
        Check.programMarked("(typ a.1)[" + Check.kindOfParts(120) + "]", 0);
        String two = "(typ a.typ b.fun x:<a,b>.1)";
        Check.programMarked(two + "[" + Check.kindOfParts(75) + "][int]", 0);
        Check.programMarked("^" + two + "[" + Check.kindOfParts(76) + "][int]", 5);
        Check.programMarked(two + "[int][" + Check.kindOfParts(76) + "]", 0);
        Check.programMarked("^" + two + "[int][" + Check.kindOfParts(77) + "]", 5);
        Check.programMarked("let g=" + two + " in 1+^g[int][" + Check.kindOfParts(77) + "]1", 5);
    }

    /** "parts (int, names, ->, all, < >)", each of them one. */
    private static void partsOfKinds() {
        String[] kinds = {"int", "<>", "(int)", "((<>))", "all a.a", "int->int", "(int->int)->int", "<int>",
            "all a.all b.a->b", "<int,<>>", "all a.<a,a->int>"};
        int[] parts = {1, 1, 1, 1, 2, 3, 5, 2, 5, 3, 6};
        for (int i = 0; i < kinds.length; i++) {
            // with ->, < > and the last int
            String text = "fun x:<" + kinds[i] + ",";
            Check.programMarked(text + Check.kindOfParts(77 - parts[i]) + ">.1", 0);
            Check.programMarked("^" + text + Check.kindOfParts(78 - parts[i]) + ">.1", 5);
        }
        Check.programMarked("typ q.fun x:<q," + Check.kindOfParts(75) + ">.1", 0);
        Check.programMarked("^typ q.fun x:<q," + Check.kindOfParts(76) + ">.1", 5);
        Check.programMarked("typ q.^fun x:<q," + Check.kindOfParts(77) + ">.1", 5);
    }

    /** "What has a fault in it (LARGE, too) is asked nothing more". */
    private static void nothingMoreIsAsked() {
        String large = "^" + Check.valueOfParts(81);
        Check.programMarked(large + "+1", 5);
        Check.programMarked("1+" + large, 5);
        Check.programMarked(large + "*1", 5);
        Check.programMarked(large + " 1", 5);
        Check.programMarked(large + "[int]", 5);
        Check.programMarked("#8<" + large + ">", 5);
        Check.programMarked("fix f(x:int):int." + large, 5);
        Check.programMarked("if0(" + large + ",1,<>)", 5);
        Check.programMarked("if0(0," + large + ",<>)", 5);
        Check.programMarked("if0(0,<>," + large + ")", 5);
        Check.programMarked("#3<^x>", 3);
        Check.programMarked("1+<^x>", 3);
        Check.programMarked("<^x>+1", 3);
        Check.programMarked("<^x>1", 3);
        Check.programMarked("<^x>[int]", 3);
        Check.programMarked("(fun x:int.x)<^y>", 3);
        Check.programMarked("if0(<^x>,1,<>)", 3);
        Check.programMarked("if0(1,<^x>,1)", 3);
        Check.programMarked("if0(1,1,<^x>)", 3);
        Check.programMarked("fix f(x:int):int.<^y>", 3);
        Check.programMarked("fun x:<" + Check.kindOfParts(90) + ",^a>.x", 3);
        Check.programMarked("fix f(x:" + Check.kindOfParts(90) + "):int.^<>", 4);
        Check.programMarked("fun x:" + Check.kindOfParts(90) + ".^1 2", 4);
    }

    /** "of one place the least number counts". */
    private static void leastNumber() {
        // SYNTAX and ROOM
        Check.programMarked("(".repeat(20) + "^)", 1);
        Check.programMarked("(".repeat(20) + "1+^fun x:int.x", 1);
        Check.programMarked("(".repeat(20) + "1+^let x=1 in x", 1);
        Check.programMarked("(".repeat(20) + "^[", 1);
        Check.programMarked("(".repeat(20) + "1^->", 1);
        Check.programMarked("(".repeat(20) + "^all", 1);
        Check.programMarked("<1,1,1,1,1,1,1,1,^in", 1);
        Check.programMarked("<1,1,1,1,1,1,1,1,^[", 1);
        // a 9th part that is a 21st open one as well: there is one place of both
        Check.programMarked("(".repeat(19) + "<1,1,1,1,1,1,1,1,^(1", 2);
    }

    /** "the first one from the left": SYNTAX and ROOM ahead of all others, of each sort the leftmost. */
    private static void leftmost() {
        Check.programMarked("x+<1,1,1,1,1,1,1,1,^1>+)", 2);
        Check.programMarked("x+^)+<1,1,1,1,1,1,1,1,1>", 1);
        Check.programMarked("1 2+#^9 x", 2);
        Check.programMarked("x ^;", 1);
        Check.programMarked("^x+1 2", 3);
        Check.programMarked("(^1 2)+x", 4);
        Check.programMarked("^" + Check.valueOfParts(81) + "+x+1 2", 5);
        Check.programMarked("^x+" + Check.valueOfParts(81), 3);
        Check.programMarked("(^1 2)+" + Check.valueOfParts(81), 4);
        Check.programMarked("^1 x", 4);
        Check.programMarked("^1[a]", 4);
        Check.programMarked("^<>+x", 4);
        Check.programMarked("if0(^<>,x,y)", 4);
        Check.programMarked("if0(1,2,^<>)+x", 4);
        Check.programMarked("^#2<1>+x", 4);
    }

    /** As many in a row as the tokens let be. */
    private static void chains() {
        Check.programMarked("1" + "*1".repeat(199), 0);
        Check.programMarked("1" + "-1".repeat(199), 0);
        Check.programMarked("1" + "+1*1".repeat(99), 0);
        Check.programMarked("1" + "*1".repeat(198) + "*^<>", 4);
        Check.programMarked("1" + "+1".repeat(198) + "-^<>", 4);
        Check.programMarked("^x" + " x".repeat(399), 3);
        Check.programMarked("x" + " x".repeat(399) + " ^x", 2);
        String alls = "let v=" + "typ q.".repeat(15) + "7 in let v=" + "typ q.".repeat(15) + "v in let v="
            + "typ q.".repeat(15) + "v in let v=" + "typ q.".repeat(15) + "v in ";
        Check.programMarked(alls + "v" + "[int]".repeat(60), 0);
        Check.programMarked(alls + "^v" + "[int]".repeat(61), 4);
        // 2 for each of the innermost typs, 1 and 2 for each around a v, 2 for each call
        Check.programRun(alls + "v" + "[int]".repeat(60), 7, 15 * 2 + 45 * 3 + 60 * 2, 60, 60, 60);
    }
}
