/** A RUN of a program, and the WORDS that it makes: each row, call and number at its boundary. */
public final class ProgramRunEdges {
    private static final String F = "let f=fun x:int.x in ";

    public static void main(String[] args) {
        wraps();
        zero();
        rowsOfFunctions();
        rowsOfTuples();
        rowsOfCalls();
        rowsOfKept();
        rowsOfFix();
        rowsFromTheLeft();
        rowsWithinBodies();
        keptAreThere();
        wide();
        lastThings();
        fuelOfCalls();
        fuelAndWords();
        mostFuel();
        mostWords();
        bounds();
        again();
        Check.end();
    }

    /** "Numbers of programs have 32 bits and wrap". */
    private static void wraps() {
        value("2147483647+1", -2147483648);
        value("2147483647+0", 2147483647);
        value("0-2147483647-1", -2147483648);
        value("0-2147483647-2", 2147483647);
        value("0-2147483647", -2147483647);
        value("0-(0-2147483647-1)", -2147483648);
        value("65536*32767", 2147418112);
        value("65536*32768", -2147483648);
        value("65536*65536", 0);
        value("65537*65537", 131073);
        value("2147483647*2147483647", 1);
        value("2147483647*2", -2);
        value("(0-2147483647-1)*(0-1)", -2147483648);
        value("46341*46341", -2147479015);
        value("46340*46340", 2147395600);
        value("let x=2147483647 in (fun y:int.x+y)1", -2147483648);
        value("#1<2147483647+1>", -2147483648);
        value("(fun x:int.x)(2147483647+2147483647)", -2);
        value("2147483647+1-1", 2147483647);
    }

    /** if0 asks for 0 alone, also for one that came by a wrap. */
    private static void zero() {
        value("if0(0,1,2)", 1);
        value("if0(1,1,2)", 2);
        value("if0(0-1,1,2)", 2);
        value("if0(2147483647+1,1,2)", 2);
        value("if0(65536*65536,1,2)", 1);
        value("if0(2147483647+1+2147483647+1,1,2)", 1);
        value("if0(256,1,2)", 2);
    }

    private static void value(String text, int value) {
        TypedDescent x = new TypedDescent();
        Check.due("fault of " + text, Check.program(x, text), 0);
        Check.due("run of " + text, x.run(20000, 20000), 0);
        Check.due("value of " + text, x.value(), value);
    }

    /** With every number of words, from none up to one more than the rows want: the rows that find room are made. */
    private static void rows(String text, int value, int... rows) {
        TypedDescent x = new TypedDescent();
        Check.due("fault of " + text, Check.program(x, text), 0);
        int total = 0;
        for (int row : rows) {
            total += row;
        }
        for (int heap = 0; heap <= total + 1; heap++) {
            int made = 0;
            for (int i = 0; i < rows.length && made + rows[i] <= heap; i++) {
                made += rows[i];
            }
            Check.due("run with " + heap + " of " + text, x.run(20000, heap), heap < total ? 2 : 0);
            Check.due("words with " + heap + " of " + text, x.count(0), made);
            Check.due("value with " + heap + " of " + text, x.value(), heap < total ? 0 : value);
        }
    }

    /** "as many as there are variables of outside that are free in it, then (a row of its own) 2". */
    private static void rowsOfFunctions() {
        rows("5", 5);
        rows("let f=fun x:int.x in 5", 5, 0, 2);
        rows("let a=1 in let f=fun x:int.x+a in 5", 5, 1, 2);
        rows("let a=1 in let b=2 in let c=3 in let f=fun x:int.a+b+c+x in 5", 5, 3, 2);
        rows("let a=1 in let b=2 in let c=3 in let f=fun x:int.c+c+c in 5", 5, 1, 2);
        rows("let a=1 in let f=typ t.a in 5", 5, 1, 2);
        rows("let f=typ t.1 in 5", 5, 0, 2);
        rows("let a=1 in let f=fix f(x:int):int.f(x+a) in 5", 5, 1, 2);
        rows("let a=1 in let f=fix f(x:int):int.f x in 5", 5, 0, 2);
        String eight = "let a=1 in let b=2 in let c=3 in let d=4 in let e=5 in let g=6 in let h=7 in let i=8 in ";
        String sum = "a+b+c+d+e+g+h+i";
        rows(eight + "let f=fun x:int." + sum + " in 5", 5, 8, 2);
        rows(eight + "let f=typ t." + sum + " in 5", 5, 8, 2);
        rows(eight + "let f=fix f(x:int):int." + sum + " in 5", 5, 8, 2);
        rows(eight + "(typ t." + sum + ")[int]", 36, 8, 2, 0, 2);
        rows(eight + "(fun x:int." + sum + ")0+" + sum, 72, 8, 2, 8, 2);
        // one of inside is none, nor one that is told within; of an inner one those of outside count
        rows("let a=1 in let f=fun a:int.a in 5", 5, 0, 2);
        rows("let a=1 in let f=fun x:int.let a=x in a in 5", 5, 0, 2);
        rows("let a=1 in let f=fun x:int.let a=a in a in 5", 5, 1, 2);
        rows("let a=1 in let f=fun x:int.fun y:int.a+x+y in 5", 5, 1, 2);
        rows("let a=1 in let f=fun x:int.fun a:int.a in 5", 5, 0, 2);
        rows("let a=1 in let f=fun x:int.if0(x,0,a) in 5", 5, 1, 2);
        rows("let a=<1> in let f=fun x:int.#1 a in 5", 5, 1, 1, 2);
        // told at unlike places, of the same name: two
        rows("let a=1 in let g=fun a:int.fun x:int.a in let f=fun x:int.g a in 5", 5, 0, 2, 2, 2);
        rows("let a=1 in let b=a in let f=fun x:int.(let a=2 in a)+a+b in 5", 5, 2, 2);
    }

    /** "< >: as many as parts, when all are worked out". */
    private static void rowsOfTuples() {
        rows("let e=<> in 5", 5, 0);
        rows("#1<5>", 5, 1);
        rows("#8<1,2,3,4,5,6,7,8>", 8, 8);
        rows("#1 #2<<1>,<7,8>>", 7, 1, 2, 2);
        rows("#2<fun x:int.x,5>", 5, 0, 2, 2);
        rows("let t=<<>,<>> in 5", 5, 0, 0, 2);
    }

    /** "A call that is not the last thing: .. KEPT .., then (a row of its own) 2, ahead of the call". */
    private static void rowsOfCalls() {
        rows("(fun x:int.x)7", 7, 0, 2, 0, 2);
        rows("(typ a.7)[int]", 7, 0, 2, 0, 2);
        rows("(typ a.fun x:a.x)[int]5", 5, 0, 2, 0, 2, 0, 2, 0, 2);
        rows(F + "let a=3 in f 7+a", 10, 0, 2, 1, 2);
        rows(F + "let a=3 in let b=4 in f 7+a*b+a", 22, 0, 2, 2, 2);
        rows(F + "2*3+f 7", 13, 0, 2, 1, 2);
        rows(F + "(1+1)*(2+2)*f 7", 56, 0, 2, 1, 2);
        rows(F + "1+1-((2+2)-f 7)", 5, 0, 2, 2, 2);
        rows("(fun x:int.(fun y:int.y)x+1)7", 8, 0, 2, 0, 2, 0, 2, 1, 2);
        rows("(fun x:int.(fun y:int.y)x+x)7", 14, 0, 2, 0, 2, 0, 2, 2, 2);
    }

    /** "KEPT are: ..": a number as it stands is none, a variable counts once and among those that are free. */
    private static void rowsOfKept() {
        rows(F + "3+f 7", 10, 0, 2, 0, 2);
        rows(F + "((3))+f 7", 10, 0, 2, 0, 2);
        rows(F + "(let q=3 in 3)+f 7", 10, 0, 2, 1, 2);
        rows(F + "if0(0,3,4)+f 7", 10, 0, 2, 1, 2);
        rows(F + "#1<3>+f 7", 10, 0, 2, 1, 1, 2);
        rows(F + "let a=3 in a+f 7", 10, 0, 2, 1, 2);
        rows(F + "let a=3 in ((a))+f 7", 10, 0, 2, 1, 2);
        rows(F + "let a=3 in a+f 7+a", 13, 0, 2, 1, 2);
        rows(F + "let a=3 in a+a+f 7", 13, 0, 2, 1, 2);
        rows(F + "let a=3 in a+(a+f 7)", 13, 0, 2, 1, 2);
        rows(F + "let a=3 in a+0+f 7+a", 13, 0, 2, 2, 2);
        rows(F + "#3<1,1+1,f 7>", 7, 0, 2, 1, 2, 3);
        rows(F + "#3<1+1,1+1,f 7,f 8>", 7, 0, 2, 3, 2, 3, 2, 4);
        rows(F + "f(f 7)", 7, 0, 2, 1, 2, 0, 2);
        rows(F + "(f)(f 7)", 7, 0, 2, 1, 2, 0, 2);
        rows("(fun x:int.x)((fun x:int.x)7)", 7, 0, 2, 0, 2, 1, 2, 0, 2);
        rows(F + "if0(f 7,f 1,2)", 2, 0, 2, 1, 2);
        rows(F + "if0(f 0,f 1,2)", 1, 0, 2, 1, 2, 0, 2);
        rows(F + "let a=1 in let b=2 in if0(f 0,a,b)", 1, 0, 2, 2, 2);
        rows(F + "let a=1 in let b=2 in if0(0,f 1,a)+b", 3, 0, 2, 1, 2);
        rows(F + "let a=f 1 in a+a", 2, 0, 2, 0, 2);
        rows(F + "let a=f 1 in f a+a", 2, 0, 2, 1, 2, 1, 2);
        rows(F + "let a=1 in let g=f a in 7", 7, 0, 2, 0, 2);
        rows(F + "let a=1 in f 7+(let b=a in 2)", 9, 0, 2, 1, 2);
        rows(F + "let a=1 in f 7+(fun y:int.a+y)2", 10, 0, 2, 1, 2, 1, 2, 1, 2);
        rows(F + "let a=1 in f 7+(let a=2 in a)", 9, 0, 2, 0, 2);
        // both sides of a call that is left, in the text and in a body
        rows(F + "let a=3 in f 7+f a", 10, 0, 2, 2, 2, 1, 2);
        rows(F + "let a=3 in let g=f in f 7+g a", 10, 0, 2, 2, 2, 1, 2);
        rows(F + "(fun a:int.f 7+f a)3", 10, 0, 2, 1, 2, 0, 2, 3, 2, 2, 2);
        rows(F + "let a=3 in #2<f 7,#1<a>>", 3, 0, 2, 1, 2, 1, 2);
        rows(F + "let t=<3> in f 7+#1 t", 10, 0, 2, 1, 1, 2);
        rows(F + "let a=3 in f 7+if0(a,1,2)", 9, 0, 2, 1, 2);
        rows(F + "let g=typ a.3 in f 7+g[int]", 10, 0, 2, 0, 2, 1, 2, 1, 2);
    }

    /** "At the beginning of a call (it counts as done) of a fix in whose e its f is free: 2". */
    private static void rowsOfFix() {
        rows("(fix f(x:int):int.x)7", 7, 0, 2, 0, 2);
        rows("(fix f(x:int):int.if0(x,9,f(x-1)))0", 9, 0, 2, 0, 2, 2);
        rows("(fix f(x:int):int.if0(x,9,f(x-1)))2", 9, 0, 2, 0, 2, 2, 2, 2);
        rows("(fix f(x:int):int.if0(x,9,1+f(x-1)))1", 10, 0, 2, 0, 2, 2, 1, 2, 2);
        rows("(fix f(x:int):int.if0(x,9,f(x-1)+x))1", 10, 0, 2, 0, 2, 2, 2, 2, 2);
        rows("(fix f(x:int):int.if0(x,9,f(f(x-1)-9)))1", 9, 0, 2, 0, 2, 2, 2, 2, 2, 2);
        rows("(fix f(f:int):int.f)7", 7, 0, 2, 0, 2);
        rows("(fix f(x:int):int.let f=x in f)7", 7, 0, 2, 0, 2);
        rows("(fix f(x:int):int.let g=f in 7)7", 7, 0, 2, 0, 2, 2);
        rows("(fix f(x:int):int.let g=fun y:int.f y in 7)7", 7, 0, 2, 0, 2, 2, 1, 2);
        counted("(fix f(x:int):int.f x)1", 5, 4, 1, 1, 1);
        counted("(fix f(x:int):int.f x)1", 6, 6, 2, 1, 1);
        counted("(fix f(x:int):int.f x)1", 7, 6, 2, 1, 1);
        counted("(fix f(x:int):int.f x+1)1", 6, 6, 1, 1, 1);
        counted("(fix f(x:int):int.f x+1)1", 8, 7, 1, 1, 1);
        counted("(fix f(x:int):int.f x+1)1", 9, 9, 2, 1, 2);
    }

    /** A run that is OUT: words, calls, met, and calls that were not the last thing. */
    private static void counted(String text, int heap, int words, int calls, int met, int notLast) {
        TypedDescent x = new TypedDescent();
        Check.program(x, text);
        Check.due("run with " + heap + " of " + text, x.run(20000, heap), 2);
        Check.due("words with " + heap + " of " + text, x.count(0), words);
        Check.due("calls with " + heap + " of " + text, x.count(1), calls);
        Check.due("met with " + heap + " of " + text, x.count(2), met);
        Check.due("not last with " + heap + " of " + text, x.count(3), notLast);
    }

    /** "works out from the left, both sides of a call ahead of it"; of if0 one of two. */
    private static void rowsFromTheLeft() {
        rows("#1<1,2,3>-#1<4,5>", -3, 3, 2);
        rows("#1<1,2>+#1<3>*#1<4,5,6>", 13, 2, 1, 3);
        rows("#1<1,2>*#1<3>+#1<4,5,6>", 7, 2, 1, 3);
        rows("#3<#1<1>,#1<1,2,3>,#1<4,5>>", 4, 1, 3, 2, 3);
        rows("#1<fun x:int.x,1>#1<7,8,9>", 7, 0, 2, 2, 3, 0, 2);
        rows("#1<typ a.7,1,1>[int]", 7, 0, 2, 3, 0, 2);
        rows("let a=#1<1,2,3> in #1<4,5>+a", 5, 3, 2);
        rows("if0(#1<0,0>,#1<1>,#1<2,3,4>)", 1, 2, 1);
        rows("if0(#1<1,0>,#1<1>,#1<2,3,4>)", 2, 2, 3);
        rows(F + "f #1<f 7>", 7, 0, 2, 1, 2, 1, 0, 2);
    }

    /** What waits outside of a body is none of what is kept within. */
    private static void rowsWithinBodies() {
        rows(F + "1+1+(fun y:int.f y+1)7", 10, 0, 2, 1, 2, 1, 2, 1, 2);
        rows(F + "1+1+(1+1+(fun y:int.f y+1)7)", 12, 0, 2, 1, 2, 2, 2, 1, 2);
        rows(F + "#2<1+1,(fun y:int.f y+1)7>", 8, 0, 2, 1, 2, 1, 2, 1, 2, 2);
        rows(F + "(fun g:int->int.g 7)(fun y:int.f y+1)", 8, 0, 2, 0, 2, 1, 2, 0, 2, 1, 2);
        rows(F + "1+1+(typ a.f 7+1)[int]", 10, 0, 2, 1, 2, 1, 2, 1, 2);
        rows(F + "1+1+(fix g(y:int):int.f y+1)7", 10, 0, 2, 1, 2, 1, 2, 1, 2);
        rows(F + "1+1+(fun y:int.(1+1)*f y)7", 16, 0, 2, 1, 2, 1, 2, 2, 2);
    }

    /** What is kept is there again behind the call, whatever the called body did. */
    private static void keptAreThere() {
        value("(fix f(n:int):int.if0(n,1,n*n+(n+n)*f(n-1)))3", 105);
        value("(fix f(n:int):int.if0(n,1,n*n-((n+n)-(n*3)*f(n-1))))3", 111);
        value("(fix f(n:int):int.if0(n,0,#2<n+1,n*f(n-1)+n,n+2>))3", 15);
        value("(fix f(n:int):int.if0(n,1,let a=n*2 in let b=n*3 in f(n-1)+a-b))3", -5);
        value("(fix f(n:int):int.if0(n,0,if0(n-1,1,f(n-1)+f(n-2))))10", 55);
        value("(fix f(n:int):int->int.fun m:int.if0(n,m,f(n-1)(m+n)))4 5", 15);
        value("let g=fun x:int.(x+1)*((x+2)*(x+3)) in (1+1)*((2+2)-((3+3)-g(4+4)))", 1976);
        value("let g=fun x:int.#1<x+1,x+2> in #3<1+1,2+2,g(3+3)+g(4+4),5+5>", 16);
    }

    /** As many variables around a body as the twenty that are open let be, about. */
    private static void wide() {
        StringBuilder text = new StringBuilder("(");
        int n = 13;
        for (int i = 1; i <= n; i++) {
            text.append("fix f").append(i).append("(x").append(i).append(":int):int")
                .append("->int".repeat(n + 1 - i)).append('.');
        }
        text.append("let a=1 in let b=a in let c=b in let d=c in let e=fun y:int.y in fun z:int.e 1+z");
        for (int i = 1; i <= n; i++) {
            text.append("+x").append(i);
        }
        text.append(')');
        for (int i = 1; i <= n; i++) {
            text.append(' ').append(i);
        }
        int[] rows = new int[4 * n + 8];
        for (int i = 0; i < n; i++) {
            rows[4 * i] = i;
            rows[4 * i + 1] = 2;
            rows[4 * i + 3] = 2;
        }
        int[] last = {0, 2, 1 + n, 2, 0, 2, 1 + n + 1, 2};
        System.arraycopy(last, 0, rows, 4 * n, last.length);
        // behind the fixes: e's function, that of z with e and all x's in it, its call, and e's, ahead of z and all x's
        rows(text + " 100", 1 + 100 + n * (n + 1) / 2, rows);
    }

    /** "A call is the LAST THING, if nothing of the body .. is left to be done behind it". */
    private static void lastThings() {
        notLast("f 1", 1, 1);
        notLast("(fun y:int.f y)1", 2, 1);
        notLast("(fun y:int.((f y)))1", 2, 1);
        notLast("(fun y:int.f y+0)1", 2, 2);
        notLast("(fun y:int.0+f y)1", 2, 2);
        notLast("(fun y:int.let z=1 in f y)1", 2, 1);
        notLast("(fun y:int.let z=f y in z)1", 2, 2);
        notLast("(fun y:int.if0(y,f 1,f 2))0", 2, 1);
        notLast("(fun y:int.if0(y,f 1,f 2))1", 2, 1);
        notLast("(fun y:int.if0(y,let z=1 in f z,(f 2)))0", 2, 1);
        notLast("(fun y:int.if0(f y,1,2))0", 2, 2);
        notLast("(fun y:int.if0(y,if0(y,f 1,2),3))0", 2, 1);
        notLast("(fun y:int.if0(y,f 1,2)+0)0", 2, 2);
        notLast("(fun y:int.#1<f y>)0", 2, 2);
        notLast("(fun y:int.f(f y))0", 3, 2);
        notLast("(fun y:int.(fun z:int.f z)y)0", 3, 1);
        notLast("(fun y:int.(fun z:int.f z)y*1)0", 3, 2);
        notLast("(typ a.f 1)[int]", 2, 1);
        notLast("(fun g:all a.int.g[int])(typ a.f 1)", 3, 1);
        notLast("(fix h(y:int):int.if0(y,f 1,h(y-1)))3", 5, 1);
        notLast("(fix h(y:int):int.if0(y,f 1,h(y-1)+0))3", 5, 4);
        notLast("#1((fun y:int.<y>)1)", 1, 1);
    }

    private static void notLast(String text, int calls, int notLast) {
        TypedDescent x = new TypedDescent();
        Check.due("fault of " + text, Check.program(x, F + text), 0);
        Check.due("run of " + text, x.run(20000, 20000), 0);
        Check.due("calls of " + text, x.count(1), calls);
        Check.due("not last of " + text, x.count(3), notLast);
    }

    /** "till it has its value, or wants a call beyond fuel". */
    private static void fuelOfCalls() {
        String[] texts = {"1+2", "(fun x:int.x)3", "(typ a.fun x:int.x)[int]3", F + "f 1+f 1+f 1",
            "(fix f(x:int):int.if0(x,3,f(x-1)))6", "(fix f(x:int):int.if0(x,0,1+f(x-1)))3"};
        int[] calls = {0, 1, 2, 3, 7, 4};
        int[] last = {0, 0, 0, 0, 6, 0};
        for (int i = 0; i < texts.length; i++) {
            TypedDescent x = new TypedDescent();
            Check.due("fault of " + texts[i], Check.program(x, texts[i]), 0);
            for (int fuel = 0; fuel <= calls[i] + 1; fuel++) {
                int done = Math.min(fuel, calls[i]);
                String what = " with fuel " + fuel + " of " + texts[i];
                Check.due("run" + what, x.run(fuel, 20000), fuel < calls[i] ? 1 : 0);
                Check.due("value" + what, x.value(), fuel < calls[i] ? 0 : 3);
                Check.due("calls" + what, x.count(1), done);
                Check.due("not last" + what, x.count(3), last[i] == 0 ? done : Math.min(1, done));
            }
        }
    }

    /** The words of a call are made ahead of it, and it "is wanted behind them". */
    private static void fuelAndWords() {
        TypedDescent x = new TypedDescent();
        Check.program(x, F + "let a=1 in f 1+a");
        int[] ends = {2, 2, 2, 2, 2, 1, 1};
        int[] words = {0, 0, 2, 3, 3, 5, 5};
        for (int heap = 0; heap < ends.length; heap++) {
            Check.due("run without fuel with " + heap, x.run(0, heap), ends[heap]);
            Check.due("words without fuel with " + heap, x.count(0), words[heap]);
            Check.due("calls without fuel with " + heap, x.count(1), 0);
            Check.due("met without fuel with " + heap, x.count(2), 1);
            Check.due("not last without fuel with " + heap, x.count(3), 0);
        }
        // the words at the beginning of a fix are behind: without fuel they are not asked for
        Check.program(x, "(fix f(x:int):int.f x)1");
        Check.due("fuel ahead of the fix's words", x.run(0, 4), 1);
        Check.due("with fuel for one", x.run(1, 4), 2);
        Check.due("with fuel for one", x.run(1, 6), 1);
        Check.due("words", x.count(0), 6);
        Check.due("with fuel for two", x.run(2, 6), 2);
        Check.due("calls", x.count(1), 2);
    }

    /** Calls in a chain that want no words make 20000 calls within 20000 words. */
    private static void mostFuel() {
        StringBuilder chain = new StringBuilder("let w0=fun x:int.x in ");
        for (int i = 1; i <= 12; i++) {
            chain.append("let w").append(i).append("=fun x:int.w").append(i - 1).append(" x in ");
        }
        // the first call, then 1333 rounds of the chain's 13 calls, one more, and that of the next round
        String text = chain + "(fix f(n:int):int.if0(n,3,let q=w12 n in let p=w0 q in f(n-1)))";
        TypedDescent x = new TypedDescent();
        Check.due("fault", Check.program(x, text + "1333+w2 0+w0 0"), 0);
        Check.due("just so many", x.run(20000, 20000), 0);
        Check.due("value", x.value(), 3);
        Check.due("calls", x.count(1), 1 + 1333 * 15 + 4);
        Check.due("fault", Check.program(x, text + "1333+w2 0+w0 0"), 0);
        Check.due("one less", x.run(19999, 20000), 1);
        Check.due("calls", x.count(1), 19999);
        Check.due("value", x.value(), 0);
        Check.due("fault", Check.program(x, text + "1333+w2 0+w0 0+w0 0"), 0);
        Check.due("one more", x.run(20000, 20000), 1);
        Check.due("calls", x.count(1), 20000);
    }

    private static void mostWords() {
        // 2 and 2, 3999 times 2, 3998 times 1 and 2
        String deep = "(fix f(n:int):int.if0(n,0,1+f(n-1)))3998";
        TypedDescent x = new TypedDescent();
        Check.due("fault", Check.program(x, deep + "+#1<1,2,3,4>"), 0);
        Check.due("just so many", x.run(20000, 20000), 0);
        Check.due("value", x.value(), 3999);
        Check.due("words", x.count(0), 20000);
        Check.due("one less", x.run(20000, 19999), 2);
        Check.due("words", x.count(0), 19996);
        Check.due("fault", Check.program(x, deep + "+#1<1,2,3,4,5>"), 0);
        Check.due("one more", x.run(20000, 20000), 2);
        Check.due("words", x.count(0), 19996);
        Check.due("value", x.value(), 0);
        Check.due("fault", Check.program(x, deep + "+#1<1,2,3,4>+(let e=<> in 1)"), 0);
        Check.due("none more", x.run(20000, 20000), 0);
        Check.due("value", x.value(), 4000);
    }

    /** "fuel is not 0 .. 20000, or heap not 0 .. 20000". */
    private static void bounds() {
        TypedDescent x = new TypedDescent();
        Check.program(x, "7");
        int[] in = {0, 1, 19999, 20000};
        int[] out = {-1, 20001, Integer.MIN_VALUE, Integer.MAX_VALUE, -20000, 65536, 20000 + 65536};
        for (int a : in) {
            for (int b : in) {
                Check.due("run(" + a + ", " + b + ")", x.run(a, b), 0);
            }
            for (int b : out) {
                Check.due("run(" + a + ", " + b + ")", x.run(a, b), -1);
                Check.due("run(" + b + ", " + a + ")", x.run(b, a), -1);
            }
        }
        for (int a : out) {
            Check.due("run(" + a + ", " + a + ")", x.run(a, a), -1);
        }
        Check.due("value", x.value(), 7);
        String[] noInt = {"<>", "<1>", "fun x:int.x", "typ a.1", "fix f(x:int):int.x", "(typ a.fun x:a.x)[int]"};
        for (String text : noInt) {
            Check.due("fault of " + text, Check.program(x, text), 0);
            Check.due("loaded", x.count(4), 1);
            Check.due("run of " + text, x.run(20000, 20000), -1);
            Check.due("words of " + text, x.count(0), 0);
        }
    }

    /** Each run is from the beginning: nothing of the one ahead of it is left. */
    private static void again() {
        TypedDescent x = new TypedDescent();
        Check.program(x, "(fix f(n:int):int.if0(n,5,f(n-1)))3");
        for (int round = 0; round < 3; round++) {
            Check.due("ended", x.run(4, 12), 0);
            counts(x, 5, 12, 4, 1, 1);
            Check.due("fuel", x.run(3, 12), 1);
            counts(x, 0, 10, 3, 1, 1);
            Check.due("refused", x.run(3, 20001), -1);
            counts(x, 0, 10, 3, 1, 1);
            Check.due("out", x.run(4, 1), 2);
            counts(x, 0, 0, 0, 1, 0);
        }
    }

    private static void counts(TypedDescent x, int value, int words, int calls, int met, int notLast) {
        Check.due("value", x.value(), value);
        Check.due("words", x.count(0), words);
        Check.due("calls", x.count(1), calls);
        Check.due("met", x.count(2), met);
        Check.due("not last", x.count(3), notLast);
    }
}
