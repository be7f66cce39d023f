import java.util.ArrayList;
import java.util.List;

/** A text is read and runs behind every other one, with a fault or without, as it does on a new object. */
public final class TextsBehindTexts {
    private static final String HALT = "mov r1,0;halt;";
    private static final int CALLS = 512;

    /** Each stops its reader somewhere else: with brackets open, names told, values that wait, a body not ended. */
    private static final String[] PROGRAMS = {
        "",
        "1",
        "1+)",
        "((((((((((((((((((((1))))))))))))))))))))",
        "((((((((((((((((((((",
        "(((((((((((((((((((((",
        "<1,1,1,1,1,1,1,1>",
        "<1,1,1,1,1,1,1,1,1",
        "fun x:<int,int,int,int,int,int,int,int,int",
        "#9",
        "#0",
        "#8 1",
        "typ a.fun x:a.y",
        "typ a.fun x:a.x",
        "fun x:a.x",
        "fun x:all a.all b.<a,b,c>.x",
        "let x=1 in let y=2 in z",
        "x",
        "y",
        "fun x:int.fun y:int.fun z:int.q",
        "1+1+(2+2)*<>",
        "<1+1,2+2,<3+3,fun x:int.x x>>",
        "<1+1,2+2,x>",
        "(fun x:int.x)y",
        "let f=typ a.1 in <f[int],f[b]>",
        "(fun x:int.x)7",
        "let a=2 in (fun x:int.x)7+a",
        "1+1-((2+2)-(fun x:int.x)7)",
        "(fix f(n:int):int.if0(n,0,1+f(n-1)))5",
        "#2<1+1,(fun x:int.x+x)7>",
        "(fun f:int->int.fun x:int.f(f x))(fun y:int.y*y)3",
        "(typ a.fun x:a.x)[int]5",
        "(typ a.fun x:a.<x,x>)[all b.b->b]",
        "typ a.typ b.fun x:<a,b>.x"};
    private static final String[] BLOCKS = {
        "",
        "s:{}jmp s;",
        "s:{}",
        "s:{}" + HALT + "l:{r2:<<<<<<<<<<<<<<<<<<<<<<<<<<<<<",
        "s:{}" + HALT + "l:{r2:<<<<<<<<<<<<<<<<<<<<<<<<<<<<<<",
        "s:{}" + HALT + "l:{r2:<<<<<<<<<<<<<<<<<<<<<<<<<<<<<>>>>>>>>>>>>>>>>>>>>>>>>>>>>>}" + HALT,
        "s:{}st r1(8),r2;",
        "s:{}malloc r1<int,int,int,int,int,int,int,int,int",
        "s:{}" + HALT + "l:[a b c d e f g h i j k l m n o p q",
        "s:{}" + HALT + "l:[a b]{r1:a,r2:c}" + HALT,
        "s:{}" + HALT + "l:{r1:a}" + HALT,
        "s:{}" + HALT + "l:{r1:<int,int,some a.<int,b>>}" + HALT,
        "s:{}malloc r2<a>;" + HALT,
        "s:{}unpack a,r2,pack[int,1]as some b.b;malloc r3<a,b>;" + HALT,
        "s:{}unpack a,r2,pack[int,1]as some b.b;malloc r3<a>;" + HALT,
        "s:{}mov r1,r2;halt;",
        "s:{}mov r2,7;mov r15,8;mov r1,l;halt;",
        "s:{}mov r2,7;mov r15,8;mov r1,9;halt;",
        "s:{}jmp l;l:{}jmp l;",
        "s:{}malloc r2<int,int>;mov r1,5;st r2(1),r1;ld r1,r2(1);jmp l;l:{r1:int}halt;",
        "s:{}malloc r2<int,int>;mov r1,5;ld r1,r2(1);halt;",
        "s:{}jmp m;b:[a a]{}" + HALT + "m:{r1:a}" + HALT,
        "s:{r1:int}halt;"};

    public static void main(String[] args) {
        List<String> texts = new ArrayList<>();
        for (String text : PROGRAMS) {
            texts.add("p" + text);
        }
        for (String text : BLOCKS) {
            texts.add("b" + text);
        }
        List<String> alone = new ArrayList<>();
        for (String text : texts) {
            alone.add(answers(new TypedDescent(), text));
        }
        TypedDescent x = new TypedDescent();
        int left = CALLS;
        for (String first : texts) {
            for (int i = 0; i < texts.size(); i++) {
                if (left < 160) {
                    x = new TypedDescent();
                    left = CALLS;
                }
                read(x, first);
                x.run(3, 9);
                Check.due(texts.get(i) + " behind " + first, answers(x, texts.get(i)), alone.get(i));
                left -= 160;
            }
        }
        manyFaults();
        manyTexts();
        Check.end();
    }

    private static int read(TypedDescent x, String text) {
        String bare = text.substring(1);
        return text.charAt(0) == 'p' ? Check.program(x, bare) : Check.blocks(x, bare);
    }

    /** What a text's reading and two runs of it answer. */
    private static String answers(TypedDescent x, String text) {
        StringBuilder all = new StringBuilder();
        all.append(read(x, text)).append(' ').append(x.place()).append(' ');
        ask(x, all);
        all.append(" run ").append(x.run(100, 100)).append(' ');
        ask(x, all);
        all.append(" run ").append(x.run(4, 6)).append(' ');
        ask(x, all);
        return all.toString();
    }

    private static void ask(TypedDescent x, StringBuilder all) {
        all.append(x.value());
        for (int what = 0; what <= 6; what++) {
            all.append(' ').append(x.count(what));
        }
        for (int i = 0; i < 12; i++) {
            all.append(' ').append(x.kind(i));
        }
        all.append(' ').append(x.code(8192)).append(' ').append(x.code(8205)).append(' ').append(x.label(1));
        int[] registers = {1, 2, 15};
        for (int k : registers) {
            all.append(' ').append(x.register(k)).append(' ').append(x.heap(k - 1));
        }
    }

    /** As many faults as 512 calls can bring leave nothing behind. */
    private static void manyFaults() {
        TypedDescent x = new TypedDescent();
        String row = "<1,1,1,1,1,1,1,".repeat(15);
        for (int round = 0; round < 36; round++) {
            Check.due("fault", Check.program(x, row + "x" + ">".repeat(15)), 3);
        }
        Check.due("no fault", Check.program(x, "#2<1,2>"), 0);
        Check.due("run", x.run(0, 2), 0);
        Check.due("value", x.value(), 2);
        TypedDescent y = new TypedDescent();
        for (int round = 0; round < 120; round++) {
            Check.due("fault", Check.program(y, round % 2 == 0 ? "typ a.fun x:a.(y" : "<fun x:int.x x,"), 1);
            Check.due("fault", Check.program(y, "typ a.fun x:a.x+1"), 4);
        }
        Check.due("no fault", Check.program(y, "let x=(fun y:int.y)3 in x"), 0);
        Check.due("run", y.run(1, 4), 0);
        Check.due("value", y.value(), 3);
    }

    /** Texts with as many tokens as may be, one behind the other in 512 calls. */
    private static void manyTexts() {
        TypedDescent x = new TypedDescent();
        for (int round = 0; round < 22; round++) {
            int n = 190 + round % 10;
            Check.due("fault", Check.program(x, "1+".repeat(n) + round), 0);
            Check.due("run", x.run(0, 0), 0);
            Check.due("value", x.value(), n + round);
        }
        TypedDescent y = new TypedDescent();
        for (int round = 0; round < 13; round++) {
            StringBuilder text = new StringBuilder("s:{}mov r1," + round + ";");
            for (int i = 0; i < 50 + round % 10; i++) {
                text.append("add r1,r1,1;");
            }
            Check.due("fault", Check.blocks(y, text + "halt;"), 0);
            Check.due("run", y.run(2000, 0), 0);
            Check.due("value", y.value(), 50 + round % 10 + round);
        }
    }
}
