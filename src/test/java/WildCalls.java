import java.util.Random;

/** Whatever is called, in whatever state: no call throws, and the same calls give the same answers. */
public final class WildCalls {
    private static final String[] PROGRAM_WORDS = {"fun", "fix", "typ", "let", "in", "if0", "all", "int", "x",
        "f", "a", "0", "1", "8", "9", "(", ")", "[", "]", "<", ">", "#", ",", ".", ":", "->", "+", "-", "*", "=",
        "2147483648", "abcdefghijk", "%\n", "?", "{"};
    private static final String[] PROGRAMS = {"fun x : int . ", "typ a . ", "let x = 1 in ", "fix f (x : int) : int . ",
        "f x ", "x + ", "(fun f : all a . a -> a . f [int] 1) ", "(typ a . fun x : a . x) ", "if0 (x, x, 1) ",
        "<1, x> ", "# 1 ", "(x) ", "[int] ", "1 "};
    private static final String[] BLOCK_WORDS = {"int", "code", "some", "pack", "as", "mov", "add", "ld", "st",
        "malloc", "bnz", "unpack", "jmp", "halt", "r1", "r2", "r15", "a", "s", "0", "1", "7", "8", "(", ")", "[",
        "]", "{", "}", "<", ">", "?", ",", ".", ":", ";", "-"};
    private static final String[] BLOCKS = {"s: {} ", "l: {r1: int} ", "m: [a] {r1: a, r2: <int, a?>} ",
        "mov r1, 1; ", "mov r2, m [int]; ", "malloc r2 <int, int>; ", "st r2(0), r1; ", "ld r1, r2(0); ", "jmp l; ",
        "jmp m [int]; ", "halt; ", "bnz r1, l; ", "mov r3, pack [int, r1] as some a . a; ", "unpack b, r4, r3; ",
        "add r1, r1, r1; ", "jmp r2 [int]; ", "mov r2, s; jmp s; "};

    public static void main(String[] args) {
        for (int seed = 0; seed < 400; seed++) {
            if (answers(seed) != answers(seed)) {
                Check.due("answers of seed " + seed, 0, 1);
            }
            Check.due("seed", 0, 0);
        }
        Check.end();
    }

    private static long answers(int seed) {
        Random random = new Random(seed);
        TypedDescent x = new TypedDescent();
        long sum = 0;
        for (int call = 0; call < 512; call++) {
            sum = sum * 31 + answer(x, random);
        }
        return sum;
    }

    private static long answer(TypedDescent x, Random random) {
        int any = random.nextInt(4) == 0 ? random.nextInt() : random.nextInt(40) - 3;
        switch (random.nextInt(16)) {
            case 0:
                return x.feed(random.nextInt(), any, any, any, any) ? 1 : 0;
            case 1:
                return x.program(any);
            case 2:
                return x.blocks(any);
            case 3:
                return x.kind(any);
            case 4:
                return x.code(8192 + any);
            case 5:
                return x.label(any);
            case 6:
            case 7:
                return x.run(random.nextInt(8) == 0 ? any : random.nextInt(500),
                    random.nextInt(8) == 0 ? any : random.nextInt(500));
            case 8:
                return x.value();
            case 9:
                return x.count(any);
            case 10:
                return x.register(any) + 31L * x.heap(any);
            case 11:
                return x.place();
            case 12:
                return read(x, text(random, PROGRAM_WORDS), true);
            case 13:
                return read(x, text(random, PROGRAMS), true);
            case 14:
                return read(x, text(random, BLOCK_WORDS), false);
            default:
                return read(x, "s: {} " + text(random, BLOCKS), false);
        }
    }

    private static String text(Random random, String[] parts) {
        StringBuilder text = new StringBuilder();
        int n = random.nextInt(random.nextInt(10) == 0 ? 420 : 20);
        for (int i = 0; i < n && text.length() < 5000; i++) {
            text.append(parts[random.nextInt(parts.length)]).append(' ');
        }
        return text.toString();
    }

    private static long read(TypedDescent x, String text, boolean asProgram) {
        if (x.count(5) + text.length() + 20 > 6000) {
            return asProgram ? x.program(x.count(5)) : x.blocks(x.count(5));
        }
        x.program(0);
        return asProgram ? Check.program(x, text) : Check.blocks(x, text);
    }
}
