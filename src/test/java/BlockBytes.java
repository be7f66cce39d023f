/** Promises 7 and 8: the bytes of blocks, and where each block is. */
public final class BlockBytes {
    public static void main(String[] args) {
        values();
        operations();
        memory();
        leaps();
        labels();
        edges();
        Check.end();
    }

    private static String bytesOf(TypedDescent x) {
        StringBuilder bytes = new StringBuilder();
        for (int address = 8192; x.code(address) >= 0; address++) {
            bytes.append(String.format("%02X", x.code(address)));
        }
        return bytes.toString();
    }

    /** The bytes of instructions that stand in the first block, ahead of its end. */
    private static void bytes(String before, String instruction, String due) {
        TypedDescent x = new TypedDescent();
        String end = "mov r1, 0; halt;";
        Check.due("fault of " + before, Check.blocks(x, "s: {} " + before + end), 0);
        int from = bytesOf(x).length() - 2 * 13;
        Check.due("fault of " + instruction, Check.blocks(x, "s: {} " + before + instruction + end), 0);
        String all = bytesOf(x);
        String want = due.replace(" ", "");
        Check.due("bytes of " + instruction, all.substring(from, all.length() - 2 * 13), want);
        Check.due("end of " + instruction, all.substring(all.length() - 2 * 13),
            "B800000000" + "A304000000" + "F4" + "CD01");
        Check.due("how many of " + instruction, x.count(6), all.length() / 2);
    }

    private static void values() {
        bytes("", "mov r2, 258;", "B8 02010000 A3 08000000");
        bytes("", "mov r15, 2147483647;", "B8 FFFFFF7F A3 3C000000");
        bytes("", "mov r2, -1;", "B8 FFFFFFFF A3 08000000");
        bytes("", "mov r2, -2147483647;", "B8 01000080 A3 08000000");
        bytes("", "mov r2, - 0;", "B8 00000000 A3 08000000");
        bytes("", "mov r2, s;", "B8 00200000 A3 08000000");
        bytes("mov r2, 1;", "mov r3, r2;", "A1 08000000 A3 0C000000");
        bytes("", "mov r2, pack [int, 5] as some a . a;", "B8 05000000 A3 08000000");
        bytes("", "unpack a, r4, pack [int, s] as some a . code {};", "B8 00200000 A3 10000000");
        bytes("mov r2, pack [int, 5] as some a . a;", "unpack a, r2, r2;", "A1 08000000 A3 08000000");
    }

    private static void operations() {
        String two = "mov r2, 1; mov r3, 2;";
        bytes(two, "add r4, r2, r3;", "A1 08000000 03 05 0C000000 A3 10000000");
        bytes(two, "sub r4, r2, r3;", "A1 08000000 2B 05 0C000000 A3 10000000");
        bytes(two, "mul r4, r2, r3;", "A1 08000000 0F AF 05 0C000000 A3 10000000");
        bytes(two, "add r4, r2, 3;", "A1 08000000 05 03000000 A3 10000000");
        bytes(two, "sub r4, r2, -3;", "A1 08000000 2D FDFFFFFF A3 10000000");
        bytes(two, "mul r4, r2, 256;", "A1 08000000 69 C0 00010000 A3 10000000");
    }

    private static void memory() {
        // behind malloc's jump: A3 R, then 13 bytes of the end but for CD 01
        bytes("", "malloc r5 <int, int, <>>;", "89 F8 81 C7 0C000000 39 F7 0F 87 10000000 A3 14000000");
        bytes("", "malloc r5 <>;", "89 F8 81 C7 00000000 39 F7 0F 87 10000000 A3 14000000");
        String made = "malloc r5 <int, int, <>>; mov r6, 1; st r5(1), r6;";
        bytes(made, "ld r7, r5(1);", "A1 14000000 8B 80 04000000 A3 1C000000");
        bytes(made, "st r5(0), r6;", "A1 18000000 8B 0D 14000000 89 81 00000000");
        bytes(made, "st r5(1), r6;", "A1 18000000 8B 0D 14000000 89 81 04000000");
    }

    private static void leaps() {
        bytes("mov r2, 1;", "bnz r2, s;", "A1 08000000 85 C0 0F 84 05000000 E9 E4FFFFFF");
        bytes("mov r2, 1; mov r3, s;", "bnz r2, r3;", "A1 08000000 85 C0 0F 84 06000000 FF 25 0C000000");
        TypedDescent x = new TypedDescent();
        Check.due("fault", Check.blocks(x, "s: {} jmp m [int]; l: {r3: code {}} jmp r3; m: [a] {} jmp s;"), 0);
        Check.due("bytes", bytesOf(x), "E906000000" + "FF250C000000" + "E9F0FFFFFF" + "CD01");
        Check.due("label", x.label(0), 8192);
        Check.due("label", x.label(1), 8197);
        Check.due("label", x.label(2), 8203);
        Check.due("no label", x.label(3), -1);
    }

    private static void labels() {
        TypedDescent x = new TypedDescent();
        StringBuilder text = new StringBuilder();
        for (int i = 0; i < 40; i++) {
            text.append("b").append(i).append(":{}jmp b").append(39 - i).append(";");
        }
        Check.due("fault", Check.blocks(x, text.toString()), 0);
        for (int i = 0; i < 40; i++) {
            Check.due("label " + i, x.label(i), 8192 + 5 * i);
        }
        Check.due("no label", x.label(40), -1);
        Check.due("how many", x.count(6), 202);
        Check.due("the last but one", x.code(8192 + 200), 0xCD);
        Check.due("the last", x.code(8192 + 201), 1);
        Check.due("none behind", x.code(8192 + 202), -1);
        Check.due("its way", x.code(8192 + 1), 190);
    }

    private static void edges() {
        TypedDescent x = new TypedDescent();
        Check.due("nothing is loaded", x.code(8192), -1);
        Check.due("nothing is loaded", x.label(0), -1);
        Check.blocks(x, "s: {} mov r1, 1; halt;");
        Check.due("ahead", x.code(8191), -1);
        Check.due("first", x.code(8192), 0xB8);
        Check.due("zero", x.code(0), -1);
        Check.due("least", x.code(Integer.MIN_VALUE), -1);
        Check.due("most", x.code(Integer.MAX_VALUE), -1);
        Check.due("below", x.label(-1), -1);
        Check.due("least", x.label(Integer.MIN_VALUE), -1);
        Check.due("most", x.label(Integer.MAX_VALUE), -1);
        Check.program(x, "1");
        Check.due("a program has none", x.code(8192), -1);
        Check.due("a program has none", x.label(0), -1);
        Check.due("a program has none", x.count(6), 0);
    }
}
