import java.util.ArrayList;
import java.util.List;
import java.util.Random;

/**
 * Promises 7 to 13 of blocks against each other: a small machine does what the bytes say, as code() answers
 * them, and must come to where run() comes. It knows nothing of blocks, labels or kinds, and stops at an
 * address that is none of a register, the code or the heap.
 */
public final class RunningBytes {
    private static final String[] HEADERS = {"s: {}", "b: {r1: int, r2: int}", "c: {r1: int, r3: <int, int?>}",
        "d: {r1: int, r4: code {r1: int, r2: int}}", "e: [t] {r1: int, r5: t, r6: code {r1: int, r5: t}}",
        "f: {r1: int, r7: some t . <t, code {r1: int, r8: t}>}", "g: {r1: int, r8: int}", "h: {r1: int, r5: <int>}"};
    private static final String[] INSTRUCTIONS = {"mov r1, 3;", "mov r2, -1;", "mov r2, r1;", "add r1, r1, r2;",
        "sub r1, r1, 1;", "sub r2, r2, r1;", "mul r1, r1, 2147483647;", "mul r2, r1, r2;", "add r2, r2, -70000;",
        "malloc r3 <int, int>;", "st r3(0), r1;", "st r3(1), r2;", "ld r1, r3(0);", "ld r2, r3(1);", "mov r4, b;",
        "mov r5, 77;", "mov r8, r1;", "malloc r5 <int>;", "st r5(0), r1;", "ld r2, r5(0);", "mov r6, h;",
        "malloc r9 <int, code {r1: int, r8: int}>;", "st r9(0), r1;", "mov r10, g;", "st r9(1), r10;",
        "mov r7, pack [int, r9] as some x . <x, code {r1: int, r8: x}>;", "unpack u, r11, r7;", "ld r8, r11(0);",
        "ld r12, r11(1);", "bnz r1, r12;", "mov r6, e [int];", "bnz r1, b;", "bnz r2, c;", "bnz r2, r4;", "bnz r1, d;",
        "bnz r2, g;", "bnz r1, f;", "bnz r2, r6;", "bnz r1, e [<int>];", "malloc r15 <>;", "malloc r14 <int, int, int>;"};
    private static final String[] ENDS = {"jmp b;", "jmp c;", "jmp d;", "jmp e [<int>];", "jmp f;", "jmp g;", "jmp h;",
        "jmp r4;", "jmp r6;", "jmp r12;", "jmp s;", "halt;"};

    public static void main(String[] args) {
        int[] ends = new int[3];
        for (int seed = 0; seed < 60; seed++) {
            Random random = new Random(seed);
            String text = text(random);
            TypedDescent x = new TypedDescent();
            Check.due("fault of " + text, Check.blocks(x, text), 0);
            ends[compared(x, text, 20000, 20000)]++;
            ends[compared(x, text, 20000, random.nextInt(12))]++;
            ends[compared(x, text, random.nextInt(30), 3 + random.nextInt(12))]++;
        }
        for (int end = 0; end < 3; end++) {
            Check.due("enough runs that end so: " + end, ends[end] > 10 ? 1 : 0, 1);
        }
        Check.end();
    }

    private static boolean isSound(String text) {
        return Check.blocks(new TypedDescent(), text) == 0;
    }

    /** Blocks with such instructions, and of the ends such a one, as the judge lets in. */
    private static String text(Random random) {
        List<String> bodies = new ArrayList<>();
        for (int block = 0; block < HEADERS.length; block++) {
            bodies.add("mov r1, 0; halt;");
        }
        for (int block = 0; block < HEADERS.length; block++) {
            String body = "";
            int n = 3 + random.nextInt(20);
            for (int i = 0; i < n; i++) {
                String longer = body + " " + INSTRUCTIONS[random.nextInt(INSTRUCTIONS.length)];
                bodies.set(block, longer + "mov r1, 0; halt;");
                body = isSound(joined(bodies)) ? longer : body;
            }
            bodies.set(block, body + " mov r1, 0; halt;");
            for (int i = 0; i < 20 && bodies.get(block).endsWith(" mov r1, 0; halt;"); i++) {
                bodies.set(block, body + " " + ENDS[random.nextInt(ENDS.length)]);
                if (!isSound(joined(bodies))) {
                    bodies.set(block, body + " mov r1, 0; halt;");
                }
            }
        }
        return joined(bodies);
    }

    private static String joined(List<String> bodies) {
        StringBuilder text = new StringBuilder();
        for (int block = 0; block < HEADERS.length; block++) {
            text.append(HEADERS[block]).append(' ').append(bodies.get(block)).append('\n');
        }
        return text.toString();
    }

    private static int compared(TypedDescent x, String text, int fuel, int heap) {
        int end = x.run(fuel, heap);
        Machine machine = new Machine(x, heap);
        int leaps = x.count(3);
        // what runs out of fuel is followed up to its last leap alone: bytes do not tell where an ins ends
        int machineEnd = machine.run(end == 1 ? leaps : Integer.MAX_VALUE);
        Check.due("end of " + text, machineEnd, end);
        Check.due("leaps of " + text, machine.leaps, leaps);
        if (end == 1) {
            return end;
        }
        Check.due("value of " + text, x.value(), end == 0 ? machine.words[1] : 0);
        for (int k = 1; k <= 15; k++) {
            Check.due("register " + k + " of " + text, x.register(k), machine.words[k]);
        }
        Check.due("words of " + text, x.count(0), machine.made());
        for (int k = 0; k < machine.made() + 2; k++) {
            Check.due("heap " + k + " of " + text, x.heap(k), k < machine.made() ? machine.heap[k] : 0);
        }
        return end;
    }

    private static final class Machine {
        private final TypedDescent x;
        private final int[] words = new int[16];
        private final int[] heap = new int[20001];
        private final int most;
        private int at = 8192;
        private int eax;
        private int ecx;
        private int edi = 65536;
        private int last = 65536;
        private boolean zero;
        private boolean above;
        private int leaps;

        Machine(TypedDescent x, int heapWords) {
            this.x = x;
            most = 65536 + 4 * heapWords;
        }

        int made() {
            return (last - 65536) / 4;
        }

        /** 0 it halted, 1 as many leaps are done, 2 it came to CD 01. */
        int run(int mostLeaps) {
            for (int n = 0; n < 1000000 && leaps < mostLeaps; n++) {
                int op = next();
                if (op == 0xF4) {
                    return 0;
                }
                if (op == 0xCD) {
                    Check.due("behind CD", next(), 1);
                    return 2;
                }
                step(op);
            }
            return leaps >= mostLeaps ? 1 : -1;
        }

        private int next() {
            int b = x.code(at);
            if (b < 0) {
                throw new IllegalStateException("no byte at " + at);
            }
            at++;
            return b;
        }

        private int nextWord() {
            return next() | next() << 8 | next() << 16 | next() << 24;
        }

        private int get(int address) {
            if (address >= 65536) {
                if (address >= last || address % 4 != 0) {
                    throw new IllegalStateException("not made: " + address);
                }
                return heap[(address - 65536) / 4];
            }
            if (address < 4 || address > 60 || address % 4 != 0) {
                throw new IllegalStateException("no word at " + address);
            }
            return words[address / 4];
        }

        private void set(int address, int word) {
            get(address);
            if (address >= 65536) {
                heap[(address - 65536) / 4] = word;
            } else {
                words[address / 4] = word;
            }
        }

        private void step(int op) {
            switch (op) {
                case 0xA1 -> eax = get(nextWord());
                case 0xA3 -> set(nextWord(), eax);
                case 0xB8 -> eax = nextWord();
                case 0x05 -> eax += nextWord();
                case 0x2D -> eax -= nextWord();
                case 0xE9 -> {
                    int way = nextWord();
                    at += way;
                    leaps++;
                }
                default -> stepByTwo(op << 8 | next());
            }
        }

        private void stepByTwo(int op) {
            switch (op) {
                case 0x0305 -> eax += get(nextWord());
                case 0x2B05 -> eax -= get(nextWord());
                case 0x69C0 -> eax *= nextWord();
                case 0x0FAF -> {
                    Check.due("behind 0F AF", next(), 5);
                    eax *= get(nextWord());
                }
                case 0x8B80 -> eax = get(eax + nextWord());
                case 0x8B0D -> ecx = get(nextWord());
                case 0x8981 -> set(ecx + nextWord(), eax);
                case 0x89F8 -> eax = edi;
                case 0x81C7 -> edi += nextWord();
                case 0x39F7 -> {
                    above = edi > most;
                    last = above ? last : edi;
                }
                case 0x0F87 -> leave(above);
                case 0x85C0 -> zero = eax == 0;
                case 0x0F84 -> leave(zero);
                case 0xFF25 -> {
                    at = get(nextWord());
                    leaps++;
                }
                default -> throw new IllegalStateException("no instruction: " + Integer.toHexString(op));
            }
        }

        private void leave(boolean asked) {
            int way = nextWord();
            at += asked ? way : 0;
        }
    }
}
