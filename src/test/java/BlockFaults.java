/** Promises 4 and 5: the faults of blocks and their places, which a ^ marks. */
public final class BlockFaults {
    private static final String HALT = " mov r1, 0; halt; ";

    public static void main(String[] args) {
        syntax();
        room();
        roomOfOpen();
        twice();
        names();
        kindsOfValues();
        kindsOfInstructions();
        fits();
        firstBlock();
        unknownLabels();
        order();
        reading();
        Check.end();
    }

    private static void syntax() {
        Check.blocksMarked("^", 1);
        Check.blocksMarked("a^", 1);
        Check.blocksMarked("a: {}^", 1);
        Check.blocksMarked("a: {} ^b: {} halt;", 1);
        Check.blocksMarked("a: {} mov r1, 1;^", 1);
        Check.blocksMarked("a: {} mov r1, 1; ^b: {} halt;", 1);
        Check.blocksMarked("a: {} mov r1, 1; halt; ^mov r1, 1;", 1);
        Check.blocksMarked("a: {} mov r1, 1; halt^", 1);
        Check.blocksMarked("a: {} jmp a; ^halt;", 1);
        Check.blocksMarked("^mov: {} halt;", 1);
        Check.blocksMarked("^r1: {} halt;", 1);
        Check.blocksMarked("r0: {} mov r1, r16; ^", 1);
        Check.blocksMarked("a: [^] {} halt;", 1);
        Check.blocksMarked("a: [b^, c] {} halt;", 1);
        Check.blocksMarked("a: {^x: int} halt;", 1);
        Check.blocksMarked("a: {r1: int,^} halt;", 1);
        Check.blocksMarked("a: {r1^} halt;", 1);
        Check.blocksMarked("a: {r1: <int,^>} halt;", 1);
        Check.blocksMarked("a: {r1: int^?} halt;", 1);
        Check.blocksMarked("a: {r1: code ^int} halt;", 1);
        Check.blocksMarked("a: {r1: some a ^int} halt;", 1);
        Check.blocksMarked("a: {} mov ^x, 1; halt;", 1);
        Check.blocksMarked("a: {} mov ^r16, 1; halt;", 1);
        Check.blocksMarked("a: {} mov ^r01, 1; halt;", 1);
        Check.blocksMarked("a: {} add r1, ^1, r1; halt;", 1);
        Check.blocksMarked("a: {} ld r1, r2(^r1); halt;", 1);
        Check.blocksMarked("a: {} ld r1, r2(^-1); halt;", 1);
        Check.blocksMarked("a: {} st r1(0), ^1; halt;", 1);
        Check.blocksMarked("a: {} malloc r1 <int^?>; halt;", 1);
        Check.blocksMarked("a: {} malloc r1^, <int>; halt;", 1);
        Check.blocksMarked("a: {} unpack ^r1, r1, r1; halt;", 1);
        Check.blocksMarked("a: {} mov r1, ^; halt;", 1);
        Check.blocksMarked("a: {} mov r1, -^r1; halt;", 1);
        Check.blocksMarked("a: {} mov r1, pack [int ^; 1] as some a . a; halt;", 1);
        Check.blocksMarked("a: {} mov r1, pack [int, 1] ^some a . a; halt;", 1);
        Check.blocksMarked("a: {} jmp a [^]; ", 1);
        Check.blocksMarked("a: {} jmp ^->; ", 1);
    }

    private static void room() {
        StringBuilder many = new StringBuilder("a: {} mov r1, 1;");
        for (int i = 0; i < 238; i++) {
            many.append("mov r1,1;");
        }
        // 4 + 239 * 5 = 1199 tokens, two for the end: the 1201st is its ;
        Check.blocksFault(many + "halt;", 2, many.length() + 4);
        Check.blocksFault(many + "halt:", 1, many.length() + 4);
        Check.blocksFault(many + "halt", 1, many.length() + 4);
        StringBuilder fit = new StringBuilder("a: {} mov r1, 1;");
        for (int i = 0; i < 237; i++) {
            fit.append("mov r1,1;");
        }
        // 4 + 238 * 5 = 1194, then 4 + 2
        Check.blocksFault(fit + "jmp b[int];", 2 + 2, fit.length() + 4);
        Check.blocksFault(fit + "jmp a  ;", 0, -1);
        StringBuilder blocks = new StringBuilder();
        for (int i = 0; i < 40; i++) {
            blocks.append("b").append(i).append(":{}jmp b0;");
        }
        Check.blocksFault(blocks.toString(), 0, -1);
        Check.blocksFault(blocks + "b40:{}jmp b0;", 2, blocks.length());
        Check.blocksFault(blocks + "{}", 1, blocks.length());
        String vars = "a b c d e f g h i j k l m n o p";
        Check.blocksMarked("s: {}" + HALT + "l: [" + vars + "] {}" + HALT, 0);
        Check.blocksMarked("s: {}" + HALT + "l: [" + vars + " ^q] {}" + HALT, 2);
        Check.blocksMarked("s: {}" + HALT + "l: {r1: code [" + vars + " ^q] {}}" + HALT, 2);
        String eight = "int, int, int, int, int, int, int, int";
        Check.blocksMarked("s: {}" + HALT + "l: {r2: <" + eight + ">}" + HALT, 0);
        Check.blocksMarked("s: {}" + HALT + "l: {r2: <" + eight + ", ^int>}" + HALT, 2);
        Check.blocksMarked("s: {}" + HALT + "l: {r2: <" + eight + ", ^>}" + HALT, 1);
        Check.blocksMarked("s: {} malloc r2 <" + eight + ">;" + HALT, 0);
        Check.blocksMarked("s: {} malloc r2 <" + eight + ", ^<>>;" + HALT, 2);
        Check.blocksMarked("s: {} malloc r2 <" + eight + ">; mov r3, 1; st r2(7), r3; ld r3, r2(7);"
            + HALT, 0);
        Check.blocksMarked("s: {} st r2(^8), r3;" + HALT, 2);
        Check.blocksMarked("s: {} ld r2, r3(^8);" + HALT, 2);
    }

    private static void roomOfOpen() {
        openKinds(29, "<", ">");
        openKinds(29, "some a . ", "");
        String codes = "s: {}" + HALT + "l: {r2: " + Check.repeated("code {r1: ", 14);
        Check.blocksMarked(codes + "<>" + Check.repeated("}", 14) + "}" + HALT, 0);
        Check.blocksMarked(codes + "<^<", 2);
        Check.blocksMarked(codes + "code ^{", 2);
        Check.blocksMarked(codes + "code ^[a]", 2);
        Check.blocksMarked("s: {}" + HALT + "l: {r2: " + Check.repeated("some a . ", 28) + "<^code {}", 2);
        String packs = Check.repeated("pack [int, ", 15);
        String closed = Check.repeated("] as some a . int", 15);
        Check.blocksMarked("s: {} mov r2, " + Check.repeated("pack [int, ", 14) + "^pack [int, 1" + closed + ";"
            + HALT, 5);
        Check.blocksMarked("s: {} mov r2, " + packs + "^pack [int, 1] as some a . int" + closed + ";"
            + HALT, 2);
        Check.blocksMarked("s: {} mov r2, " + packs + "l ^[int]" + closed + ";" + HALT, 2);
        Check.blocksMarked("s: {} malloc r2 <" + Check.repeated("<", 29) + Check.repeated(">", 29)
            + ">;" + HALT, 0);
        Check.blocksMarked("s: {} malloc r2 <" + Check.repeated("<", 29) + "^<>"
            + Check.repeated(">", 29) + ">;" + HALT, 2);
    }

    /** With the { of the file, that many more may be open. */
    private static void openKinds(int most, String left, String right) {
        String head = "s: {}" + HALT + "l: {r2: " + Check.repeated(left, most);
        Check.blocksMarked(head + "int" + Check.repeated(right, most) + "}" + HALT, 0);
        Check.blocksMarked(head + "^" + left + "int", 2);
        Check.blocksMarked(head + "^]", 1);
    }

    private static void twice() {
        Check.blocksMarked("s: {}" + HALT + "l: {}" + HALT + "^s: {r1: int}" + HALT, 3);
        Check.blocksMarked("s: {} jmp l; l: {}" + HALT + "^l: {r1: int} halt;", 3);
        Check.blocksMarked("s: {}" + HALT + "l: [a b ^a] {}" + HALT, 3);
        Check.blocksMarked("s: {}" + HALT + "l: {r1: int, r2: int, ^r1: int}" + HALT, 3);
        Check.blocksMarked("s: {}" + HALT + "l: {r1: code [a ^a] {}}" + HALT, 3);
        Check.blocksMarked("s: {}" + HALT + "l: {r1: code {r1: int, ^r1: zz}}" + HALT, 3);
        Check.blocksMarked("s: {}" + HALT + "l: [a] {r1: code [a] {r2: some a . a}}" + HALT, 0);
        Check.blocksMarked("s: {} mov r2, pack [int, 1] as some a . a; unpack a, r3, r2; unpack ^a, r3, r2;"
            + HALT, 3);
        Check.blocksMarked("s: {} mov r2, pack [int, 1] as some a . a; unpack a, r3, r2; unpack b, r3, r2;"
            + HALT, 0);
        Check.blocksMarked("s: {}" + HALT + "l: [a] {r2: some b . b} unpack ^a, r2, r2;" + HALT, 3);
        Check.blocksMarked("s: {}" + HALT + "l: {r2: some b . b} unpack b, r2, r2; unpack s, r2, pack [b, r2] as "
            + "some b . b;" + HALT + "m: {r2: some b . b} unpack b, r2, r2;" + HALT, 0);
    }

    private static void names() {
        Check.blocksMarked("s: {} jmp ^l;", 4);
        Check.blocksMarked("s: {} mov r2, ^l [int];" + HALT, 4);
        Check.blocksMarked("s: {} mov r1, ^r2; halt;", 4);
        Check.blocksMarked("s: {} add r1, ^r2, r3; halt;", 4);
        Check.blocksMarked("s: {} mov r2, 1; add r1, r2, ^r3; halt;", 4);
        Check.blocksMarked("s: {} ld r1, ^r2(0); halt;", 4);
        Check.blocksMarked("s: {} st ^r2(0), r3; halt;", 4);
        Check.blocksMarked("s: {} malloc r2 <int>; st r2(0), ^r3; halt;", 4);
        Check.blocksMarked("s: {} bnz ^r2, l; halt;", 4);
        Check.blocksMarked("s: {} jmp ^r2;", 4);
        Check.blocksMarked("s: {} unpack a, r1, ^r2; halt;", 4);
        Check.blocksMarked("s: {} malloc r2 <int, ^a>; halt;", 4);
        Check.blocksMarked("s: {} mov r2, ^s [a]; halt;", 5);
        Check.blocksMarked("s: {} mov r2, l [^a];" + HALT + "l: [a] {}" + HALT, 4);
        Check.blocksMarked("s: {} mov r2, pack [^a, 1] as some a . a;" + HALT, 4);
        Check.blocksMarked("s: {} mov r2, pack [int, 1] as some a . ^b;" + HALT, 4);
        Check.blocksMarked("s: {} unpack a, r2, pack [int, 1] as some b . ^a;" + HALT, 4);
        Check.blocksMarked("s: {} unpack a, r2, pack [int, 1] as some b . b; malloc r3 <a>;" + HALT, 0);
        Check.blocksMarked("s: {}" + HALT + "l: [a] {r2: <a, some b . b, ^b>}" + HALT, 4);
        Check.blocksMarked("s: {}" + HALT + "l: {r2: <code [a] {r1: a}, ^a>}" + HALT, 4);
        Check.blocksMarked("s: {}" + HALT + "l: [a] {}" + HALT + "m: {r2: ^a}" + HALT, 4);
        Check.blocksMarked("s: {} mov r2, pack [int, 1] as some b . b; unpack a, r2, r2;" + HALT
            + "m: {r2: ^a}" + HALT, 4);
    }

    private static void kindsOfValues() {
        Check.blocksMarked("s: {} mov r2, ^1 [int];" + HALT, 5);
        Check.blocksMarked("s: {} mov r2, ^-1 [int];" + HALT, 5);
        Check.blocksMarked("s: {} mov r2, ^s [int];" + HALT, 5);
        Check.blocksMarked("s: {} mov r2, ^l [int] [int];" + HALT + "l: [a] {}" + HALT, 5);
        Check.blocksMarked("s: {} mov r2, ^pack [int, 1] as some a . a [int];" + HALT, 5);
        Check.blocksMarked("s: {} mov r2, pack [int, ^s] as some a . a;" + HALT, 5);
        Check.blocksMarked("s: {} mov r2, pack [int, s] as some a . code {};" + HALT, 0);
        Check.blocksMarked("s: {} mov r2, pack [int, 1] as ^int;" + HALT, 5);
        Check.blocksMarked("s: {} mov r2, pack [int, 1] as ^code {};" + HALT, 5);
        Check.blocksMarked("s: {} mov r2, pack [code {}, ^1] as some a . a;" + HALT, 5);
        Check.blocksMarked("s: {} mov r2, pack [code {}, l [code {}]] as some a . code {r2: a};" + HALT
            + "l: [b] {r2: b}" + HALT, 0);
        Check.blocksMarked("s: {} mov r2, pack [int, l] as some a . code [c d] {r3: d, r2: <a, c?>};" + HALT
            + "l: [b a] {r2: <int, b?>, r3: a}" + HALT, 0);
        Check.blocksMarked("s: {} mov r2, pack [int, ^l] as some a . code [c d] {r2: <a, d?>, r3: c};" + HALT
            + "l: [b a] {r2: <int, b?>, r3: a}" + HALT, 5);
        Check.blocksMarked("s: {} mov r2, pack [int, ^l] as some a . code [c d] {r2: <a, c>, r3: d};" + HALT
            + "l: [b a] {r2: <int, b?>, r3: a}" + HALT, 5);
        // the block's own a stays what it is, though the label's first name is a likewise
        Check.blocksMarked("s: {}" + HALT + "l: [a b] {r2: a} malloc r2 <b>; jmp l [<b?>] [int];", 0);
        Check.blocksMarked("s: {}" + HALT + "l: [a b] {r2: a} malloc r2 <int>; jmp ^l [<b?>] [int];", 5);
    }

    private static void kindsOfInstructions() {
        Check.blocksMarked("s: {} mov r1, s; add r1, ^r1, 1; halt;", 5);
        Check.blocksMarked("s: {} mov r1, 1; sub r1, r1, ^s; halt;", 5);
        Check.blocksMarked("s: {} mov r1, 1; mul r1, r1, ^pack [int, 1] as some a . a; halt;", 5);
        Check.blocksMarked("s: {} mov r1, 1; ld r1, ^r1(0); halt;", 5);
        Check.blocksMarked("s: {} malloc r1 <int>; ld r1, ^r1(0); halt;", 5);
        Check.blocksMarked("s: {} malloc r1 <int>; mov r2, 1; st r1(0), r2; ld r1, ^r1(1); halt;", 5);
        Check.blocksMarked("s: {} malloc r1 <int>; mov r2, 1; st r1(0), r2; ld r1, r1(0); halt;", 0);
        Check.blocksMarked("s: {} malloc r1 <int>; mov r3, r1; mov r2, 1; st r1(0), r2; ld r1, ^r3(0); halt;", 5);
        Check.blocksMarked("s: {} mov r1, 1; st ^r1(0), r1; halt;", 5);
        Check.blocksMarked("s: {} mov r2, 1; malloc r1 <int>; st ^r1(1), r2; halt;", 5);
        Check.blocksMarked("s: {} malloc r1 <int>; st r1(0), ^r1; halt;", 5);
        Check.blocksMarked("s: {} malloc r2 <int>; malloc r3 <<int>>; st r3(0), ^r2; halt;", 5);
        Check.blocksMarked("s: {} malloc r2 <int>; malloc r3 <<int?>>; st r3(0), r2;" + HALT, 0);
        Check.blocksMarked("s: {} mov r1, s; bnz ^r1, s; halt;", 5);
        Check.blocksMarked("s: {} mov r1, 1; bnz r1, ^1; halt;", 5);
        Check.blocksMarked("s: {} mov r1, 1; bnz r1, ^l; halt; l: [a] {} jmp s;", 5);
        Check.blocksMarked("s: {} mov r1, 1; bnz r1, l [int]; halt; l: [a] {} jmp s;", 0);
        Check.blocksMarked("s: {} jmp ^l; l: {r1: int} halt;", 5);
        Check.blocksMarked("s: {} mov r1, s; jmp ^l; l: {r1: int} halt;", 5);
        Check.blocksMarked("s: {} jmp ^pack [int, s] as some a . code {};", 5);
        Check.blocksMarked("s: {} mov r1, l; jmp ^r1; l: {r1: code {}}" + HALT, 5);
        Check.blocksMarked("s: {} mov r1, s; jmp l; l: {r1: code {}} jmp r1;", 0);
        Check.blocksMarked("s: {} unpack a, r1, ^1; halt;", 5);
        Check.blocksMarked("s: {} unpack a, r1, pack [int, 1] as some b . b; ^halt;", 5);
        Check.blocksMarked("s: {} unpack a, r1, pack [int, 1] as some b . int; halt;", 0);
        Check.blocksMarked("s: {} ^halt;", 5);
        Check.blocksMarked("s: {} mov r1, s; ^halt;", 5);
    }

    private static void fits() {
        String ready = "s: {} malloc r2 <int, <int>>; mov r1, 1; st r2(0), r1; ";
        Check.blocksMarked(ready + "jmp l; l: {r2: <int, <int>?>}" + HALT, 0);
        Check.blocksMarked(ready + "jmp l; l: {r2: <int?, <int>?>}" + HALT, 0);
        Check.blocksMarked(ready + "jmp ^l; l: {r2: <int, <int>>}" + HALT, 5);
        Check.blocksMarked(ready + "jmp ^l; l: {r2: <int>}" + HALT, 5);
        Check.blocksMarked(ready + "jmp ^l; l: {r2: <int, <int?>?>}" + HALT, 5);
        Check.blocksMarked(ready + "jmp ^l; l: {r2: <int, <int>?, int?>}" + HALT, 5);
        Check.blocksMarked(ready + "jmp l; l: {r1: int, r2: <int, <int>?>} halt;", 0);
        Check.blocksMarked(ready + "jmp ^l; l: {r1: int, r3: int} halt;", 5);
        Check.blocksMarked(ready + "jmp ^l; l: {r2: int}" + HALT, 5);
        Check.blocksMarked("s: {} malloc r2 <>; jmp ^l; l: {r2: int}" + HALT, 5);
        Check.blocksMarked("s: {} malloc r2 <>; jmp ^l; l: {r2: code {}}" + HALT, 5);
        Check.blocksMarked("s: {} malloc r2 <>; jmp l; l: {r2: <>}" + HALT, 0);
        Check.blocksMarked("s: {} mov r2, 1; jmp ^l; l: {r2: <>}" + HALT, 5);
        Check.blocksMarked("s: {} mov r2, s; jmp ^l; l: {r2: <>}" + HALT, 5);
        Check.blocksMarked("s: {} malloc r2 <int>; jmp ^l; l: {r2: some a . int}" + HALT, 5);
        String handed = "s: {}" + HALT + "l: {r1: code {r2: <int?>}, r2: <int>} ";
        Check.blocksMarked(handed + "jmp r1;", 0);
        Check.blocksMarked(handed + "jmp ^m; m: {r1: code {r2: <int>}}" + HALT, 5);
        Check.blocksMarked(handed + "jmp m; m: {r2: <int>, r1: code {r2: <int?>}}" + HALT, 0);
        Check.blocksMarked("s: {}" + HALT + "l: {r1: some a . <a, int>} jmp m; m: {r1: some b . <b, int>}"
            + HALT, 0);
        Check.blocksMarked("s: {}" + HALT + "l: {r1: some a . <a, int>} jmp ^m; m: {r1: some b . <b?, int>}"
            + HALT, 5);
        Check.blocksMarked("s: {}" + HALT + "l: [a] {r1: a} jmp l [a];", 0);
        Check.blocksMarked("s: {}" + HALT + "l: [a] {r1: a} jmp ^l [int];", 5);
    }

    private static void firstBlock() {
        Check.blocksMarked("s: ^{r1: int} halt;", 5);
        Check.blocksMarked("s: ^[a] {}" + HALT, 5);
        Check.blocksMarked("s: ^[a] {r1: int}" + HALT, 5);
        Check.blocksMarked("s: ^[a] {r1: b}" + HALT, 5);
        Check.blocksMarked("s: [a ^a] {r1: int}" + HALT, 3);
        Check.blocksMarked("s: {r1: ^a}" + HALT, 4);
        Check.blocksMarked("s: {r1: int, ^r1: int}" + HALT, 3);
    }

    private static void unknownLabels() {
        String bad = " bad: {r1: ^zz}" + HALT;
        Check.blocksMarked("s: {} jmp bad;" + bad, 4);
        Check.blocksMarked("s: {} mov r1, bad; halt;" + bad, 4);
        String ask = "s: {} mov r1, bad; ld r2, r1(0); jmp bad [int]; bad: ";
        Check.blocksMarked(ask + "{r1: <int, ^zz>}" + HALT, 4);
        Check.blocksMarked(ask + "{r1: <int, <^zz>>, r1: int}" + HALT, 4);
        Check.blocksMarked(ask + "{r1: some a . ^zz}" + HALT, 4);
        Check.blocksMarked(ask + "{r1: code {r1: ^zz}}" + HALT, 4);
        Check.blocksMarked(ask + "{r1: code [a ^a] {}}" + HALT, 3);
        Check.blocksMarked(ask + "{r1: code {r1: int, ^r1: int}}" + HALT, 3);
        Check.blocksMarked(ask + "{r1: int, ^r1: int}" + HALT, 3);
        Check.blocksMarked("s: {} mov r2, bad; add r1, r2, r2; ld r3, r2(5); st r2(0), r3; halt;" + bad, 4);
        Check.blocksMarked("s: {} mov r2, bad [int] [<>]; unpack a, r3, r2; bnz r3, r2; jmp r3;" + bad, 4);
        Check.blocksMarked("s: {} mov r1, bad; jmp l; l: {r1: <int>}" + HALT + bad, 4);
        Check.blocksMarked("s: {} mov r1, bad; jmp ^l; l: {r1: <int>, r2: int}" + HALT + bad.replace("^", ""), 5);
        Check.blocksMarked("s: {} mov r2, bad [^a]; halt;" + bad.replace("^", ""), 4);
        Check.blocksMarked("s: {} mov r2, bad; add r1, r2, 1; jmp ^r1;" + bad.replace("^", ""), 5);
        Check.blocksMarked("s: {} mov r2, bad; malloc r1 <int>; st r1(0), r2; ld r1, r1(0); jmp ^r1;"
            + bad.replace("^", ""), 5);
        Check.blocksMarked("s: {} mov r1, pack [int, bad] as some a . a; ^halt;" + bad.replace("^", ""), 5);
        Check.blocksMarked("s: {} mov r1, pack [int, bad] as ^int; halt;" + bad.replace("^", ""), 5);
        Check.blocksMarked("s: {} mov r2, bad; st r2(0), ^r3; halt;" + bad.replace("^", ""), 4);
        Check.blocksMarked("s: {} mov r2, bad; unpack a, r3, r2; malloc r4 <a, ^b>; halt;" + bad.replace("^", ""), 4);
        Check.blocksMarked("s: {} jmp l; l: {} jmp m; m: [a ^a] {r1: int} halt;", 3);
        Check.blocksMarked("s: {} jmp l; l: {} jmp ^m; m: [a] {r1: int} halt; l2: [a a] {} halt;", 5);
        // the second block of a name is meant by none, so the first one's kind is asked
        Check.blocksMarked("s: {} jmp ^l; l: {r1: int} halt; l: {r1: zz} halt;", 5);
    }

    private static void order() {
        Check.blocksMarked("s: {} jmp zz; ^@", 1);
        Check.blocksMarked("s: {} st r1(^9), zz; @", 2);
        Check.blocksMarked("s: {} mov r1, ^zz; mov r1, r2; halt;", 4);
        Check.blocksMarked("s: {} jmp pack [^zz, 1] as int;", 4);
        Check.blocksMarked("s: {} jmp pack [int, ^zz] as int;", 4);
        Check.blocksMarked("s: {} jmp pack [int, s] as some a . ^zz;", 4);
        Check.blocksMarked("s: {} jmp pack [int, ^s [int]] as zz;", 5);
        Check.blocksMarked("s: {} jmp ^1 [zz];", 5);
        Check.blocksMarked("s: {} mov r1, s; add r1, ^r1, r2; halt;", 5);
        Check.blocksMarked("s: {} mov r1, s; bnz ^r1, zz; halt;", 5);
        Check.blocksMarked("s: {} mov r1, 1; st ^r1(0), r2; halt;", 5);
        Check.blocksMarked("s: {} ^halt; s: {} halt;", 5);
    }

    private static void reading() {
        TypedDescent x = new TypedDescent();
        Check.due("blocks", Check.blocks(x, "s: {} mov r1, 1; halt;"), 0);
        Check.due("loaded", x.count(4), 2);
        Check.due("a fault", Check.blocks(x, "s: {} jmp l;"), 4);
        Check.due("its place", x.place(), 10);
        Check.due("nothing is loaded", x.count(4), 0);
        Check.due("no code", x.code(8192), -1);
        Check.due("no label", x.label(0), -1);
        Check.due("no bytes", x.count(6), 0);
        Check.due("no run", x.run(1, 1), -1);
        Check.due("a program", Check.program(x, "1"), 0);
        Check.due("loaded", x.count(4), 1);
        Check.due("no code", x.code(8192), -1);
        Check.due("no bytes", x.count(6), 0);
        Check.due("a program is no blocks", Check.blocks(x, "1"), 1);
        Check.due("place", x.place(), 0);
    }
}
