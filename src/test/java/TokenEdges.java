/** The sentences of TOKENS, in programs and in blocks: each at its boundary and just beyond it. */
public final class TokenEdges {
    private static final String HALT = " mov r1, 0; halt; ";

    public static void main(String[] args) {
        everyByteBehindNumber();
        everyByteBehindName();
        everyByteBehindInstruction();
        names();
        numbers();
        numbersOfBlocks();
        signs();
        blanks();
        comments();
        keywords();
        registers();
        unlikeNames();
        cutTexts();
        Check.end();
    }

    private static boolean isBlank(int b) {
        return b == 9 || b == 10 || b == 13 || b == 32;
    }

    private static boolean isDigit(int b) {
        return b >= '0' && b <= '9';
    }

    private static boolean isLetter(int b) {
        return b >= 'A' && b <= 'Z' || b >= 'a' && b <= 'z';
    }

    /** "NUMBERS, digits .., without a letter or digit behind"; "Between them 9, 10, 13, 32, and comments". */
    private static void everyByteBehindNumber() {
        for (int b = 0; b < 256; b++) {
            String text = "1" + (char) b + "+2";
            if (isBlank(b) || isDigit(b) || b == '%') {
                Check.programFault(text, 0, -1);
            } else if (isLetter(b)) {
                Check.programFault(text, 1, 0);
            } else {
                boolean goesOn = "([<#+-*".indexOf(b) >= 0;
                Check.programFault(text, 1, goesOn ? 2 : 1);
            }
        }
    }

    /** "NAMES, a letter (A .. Z a .. z), then letters and digits". */
    private static void everyByteBehindName() {
        for (int b = 0; b < 256; b++) {
            String text = "let x" + (char) b + " = 1 in 2";
            if (isBlank(b) || isDigit(b) || isLetter(b)) {
                Check.programFault(text, 0, -1);
            } else if (b == '%') {
                Check.programFault(text, 1, text.length());
            } else {
                Check.programFault(text, 1, b == '=' ? 7 : 5);
            }
            String first = "let " + (char) b + "x = 1 in 2";
            if (isBlank(b) || isLetter(b)) {
                Check.programFault(first, 0, -1);
            } else {
                Check.programFault(first, 1, b == '%' ? first.length() : 4);
            }
        }
    }

    private static void everyByteBehindInstruction() {
        String head = "s: {} mov r1, 1; halt;";
        for (int b = 0; b < 256; b++) {
            String text = head + (char) b;
            if (isBlank(b) || b == '%') {
                Check.blocksFault(text, 0, -1);
            } else {
                Check.blocksFault(text, 1, isLetter(b) ? head.length() + 1 : head.length());
            }
        }
    }

    /** "at most 10 bytes (a longer one is none)". */
    private static void names() {
        Check.programMarked("let A = 1 in A", 0);
        Check.programMarked("let aZ09zA9999 = 1 in aZ09zA9999", 0);
        Check.programMarked("let ^aZ09zA99990 = 1 in 1", 1);
        Check.programMarked("let abcdefghij = 1 in ^abcdefghijk", 1);
        Check.programMarked("fun abcdefghij : int . abcdefghij", 0);
        Check.programMarked("fun ^abcdefghijk : int . 1", 1);
        Check.programMarked("fix abcdefghij (bbcdefghij : int) : int . bbcdefghij", 0);
        Check.programMarked("fix ^abcdefghijk (x : int) : int . x", 1);
        Check.programMarked("fix f (^abcdefghijk : int) : int . 1", 1);
        Check.programMarked("typ abcdefghij . fun x : abcdefghij . x", 0);
        Check.programMarked("typ ^abcdefghijk . 1", 1);
        Check.programMarked("fun x : all abcdefghij . abcdefghij . x", 0);
        Check.programMarked("fun x : all ^abcdefghijk . int . x", 1);
        Check.programMarked("fun x : ^abcdefghijk . x", 1);
        Check.programMarked("^" + "x".repeat(5999), 1);
        // names are unlike if the tenth byte, or the case of one, is; one is no beginning of another
        Check.programRun("let abcdefghij = 1 in let abcdefghik = 2 in abcdefghij", 1, 0, 0, 0, 0);
        Check.programRun("let x = 1 in let X = 2 in x", 1, 0, 0, 0, 0);
        Check.programRun("let a = 1 in let aa = 2 in let a0 = 3 in a", 1, 0, 0, 0, 0);
        Check.programMarked("let abcdefghij = 1 in ^abcdefghi", 3);
        Check.blocksMarked("abcdefghij: {} jmp abcdefghij;", 0);
        Check.blocksMarked("^abcdefghijk: {} halt;", 1);
        Check.blocksMarked("s: {} jmp ^abcdefghijk;", 1);
        Check.blocksMarked("s: {} jmp l [int]; l: [abcdefghij] {}" + HALT, 0);
        Check.blocksMarked("s: {} jmp l [int]; l: [^abcdefghijk] {}" + HALT, 1);
        Check.blocksMarked("s: {} malloc r1 <some abcdefghij . abcdefghij>;" + HALT, 0);
        Check.blocksMarked("s: {} malloc r1 <some ^abcdefghijk . int>;" + HALT, 1);
        Check.blocksMarked("s: {} unpack abcdefghij, r2, pack [int, 1] as some a . a; malloc r1 <abcdefghij>;" + HALT, 0);
        Check.blocksMarked("s: {} unpack ^abcdefghijk, r2, pack [int, 1] as some a . a;" + HALT, 1);
    }

    /** "digits up to 2147483647, without a letter or digit behind". */
    private static void numbers() {
        Check.programRun("0", 0, 0, 0, 0, 0);
        Check.programRun("2147483646", 2147483646, 0, 0, 0, 0);
        Check.programRun("2147483647", 2147483647, 0, 0, 0, 0);
        Check.programMarked("^2147483648", 1);
        Check.programMarked("^2147483650", 1);
        Check.programMarked("^4294967296", 1);
        Check.programMarked("^4294967297", 1);
        Check.programMarked("^9223372036854775808", 1);
        Check.programMarked("^18446744073709551617", 1);
        Check.programMarked("^" + "9".repeat(5999), 1);
        Check.programRun("0002147483647", 2147483647, 0, 0, 0, 0);
        Check.programMarked("^0002147483648", 1);
        Check.programRun("0".repeat(5900) + "7", 7, 0, 0, 0, 0);
        Check.programMarked("^0x1", 1);
        Check.programMarked("^1e3", 1);
        Check.programMarked("1 + ^2if0", 1);
        Check.programMarked("let x = 1 in (x) + ^1in", 1);
        Check.programMarked("# ^2147483648 <1>", 1);
    }

    private static void numbersOfBlocks() {
        Check.blocksMarked("s: {} mov r1, 2147483647; halt;", 0);
        Check.blocksMarked("s: {} mov r1, ^2147483648; halt;", 1);
        Check.blocksMarked("s: {} mov r1, -2147483647; halt;", 0);
        Check.blocksMarked("s: {} mov r1, -^2147483648; halt;", 1);
        Check.blocksMarked("s: {} mov r1, ^1r; halt;", 1);
        Check.blocksMarked("s: {} ld r1, r2(^2147483648); halt;", 1);
        Check.blocksMarked("s: {} ld r1, r2(^2147483647); halt;", 2);
    }

    /** "SIGNS . : , ; ( ) [ ] { } < > # + - * = ? -> (the longest one counts)". */
    private static void signs() {
        Check.programMarked("fun x:int->int.x", 0);
        Check.programMarked("fun x:int^- >int.x", 1);
        Check.programMarked("fun x:int^-%\n>int.x", 1);
        Check.programMarked("1^->2", 1);
        Check.programMarked("1-^->2", 1);
        Check.programMarked("1-^-2", 1);
        Check.programMarked("1- ^>2", 1);
        Check.programMarked("fun x:int->^->int.x", 1);
        Check.programMarked("fun x:int->^>int.x", 1);
        Check.programMarked("fun x:<int>-><int>.x", 0);
        Check.programMarked("1-^", 1);
        Check.programRun("1-2", -1, 0, 0, 0, 0);
        Check.blocksMarked("s:{}mov r1,-1;halt;", 0);
        Check.blocksMarked("s:{}mov r1,- 1;halt;", 0);
        Check.blocksMarked("s:{}mov r1,-%\n1;halt;", 0);
        Check.blocksMarked("s:{}mov r1,^->1;halt;", 1);
        Check.blocksMarked("s:{}mov r1,-^-1;halt;", 1);
        Check.blocksMarked("s:{}mov r1,^+1;halt;", 1);
        for (String sign : new String[] {"!", "\"", "$", "&", "'", "/", "@", "\\", "_", "`", "|", "~", "\u007f",
                "\u0080", "\u00ff", "\u0000", "\u001f", "\u000b", "\u000c"}) {
            Check.programFault("1 " + sign, 1, 2);
            Check.blocksFault("s " + sign, 1, 2);
        }
        for (String sign : new String[] {"{", "}", ";", "?", "=", ":", ",", ".", ">", ")", "]", "->"}) {
            Check.programFault("1 " + sign, 1, 2);
        }
        for (String sign : new String[] {"#", "+", "*", "=", "->", "."}) {
            Check.blocksFault("s: " + sign, 1, 3);
        }
    }

    private static void blanks() {
        Check.programMarked("\t\n\r 1\t\n\r +\t\n\r 2\t\n\r ", 0);
        Check.programMarked("1^\b", 1);
        Check.programMarked("1^\u000e", 1);
        Check.programMarked("let\tx\n=\r1 in x", 0);
        Check.programFault(" ".repeat(5999) + "1", 0, -1);
        Check.programFault(" ".repeat(6000), 1, 6000);
        Check.programFault("1" + "\n".repeat(5999), 0, -1);
        Check.programFault("(" + "\r".repeat(5999), 1, 6000);
        Check.blocksFault(" ".repeat(5980) + "s:{}mov r1,1;halt;", 0, -1);
        Check.blocksFault("\t".repeat(6000), 1, 6000);
    }

    /** "comments from % up to 10 or the end". */
    private static void comments() {
        StringBuilder all = new StringBuilder("1%");
        for (int b = 0; b < 256; b++) {
            all.append(b == 10 ? "" : (char) b);
        }
        Check.programRun(all.toString(), 1, 0, 0, 0, 0);
        Check.programRun(all + "\n+ 2", 3, 0, 0, 0, 0);
        Check.programRun("1%", 1, 0, 0, 0, 0);
        Check.programRun("1%\n", 1, 0, 0, 0, 0);
        Check.programRun("%\n1", 1, 0, 0, 0, 0);
        Check.programRun("%\n%\n%%\n1%%", 1, 0, 0, 0, 0);
        Check.programRun("1 % + 2\r + 3", 1, 0, 0, 0, 0);
        Check.programRun("1 % + 2\n + 3", 4, 0, 0, 0, 0);
        Check.programMarked("^1%\n2", 4);
        Check.programMarked("%^", 1);
        Check.programMarked("%\n^", 1);
        Check.programMarked("% 1 + 2^", 1);
        Check.programMarked("1 + % 2^", 1);
        Check.programMarked("1 + %\n^@", 1);
        // a comment parts two tokens, as a blank does
        Check.programMarked("let ab%\n^cd = 1 in 2", 1);
        Check.programMarked("let%\nx = 1 in x", 0);
        Check.blocksMarked("s:%\n{}%\nmov%\nr1%\n,%\n1%\n;%\nhalt%\n;%", 0);
        Check.blocksMarked("s: {} % halt;^", 1);
        Check.programFault("1%" + "x".repeat(5998), 0, -1);
    }

    /** The keywords of programs are names in blocks, and the other way round. */
    private static void keywords() {
        for (String word : "int all fun fix typ let in if0".split(" ")) {
            Check.programFault("let " + word + " = 1 in 1", 1, 4);
            if (!word.equals("int")) {
                Check.blocksFault(word + ": {} jmp " + word + ";", 0, -1);
            }
            String larger = word.substring(0, 1).toUpperCase() + word.substring(1);
            Check.programFault("let " + larger + " = 1 in " + larger, 0, -1);
            Check.programFault("let " + word + "x = 1 in " + word + "x", 0, -1);
        }
        for (String word : "int code some pack as mov add sub mul ld st malloc bnz unpack jmp halt".split(" ")) {
            Check.blocksFault(word + ": {} jmp s;", 1, 0);
            if (!word.equals("int")) {
                Check.programFault("let " + word + " = 1 in " + word, 0, -1);
            }
            String larger = word.substring(0, 1).toUpperCase() + word.substring(1);
            Check.blocksFault(larger + ": {} jmp " + larger + ";", 0, -1);
            Check.blocksFault(word + "1: {} jmp " + word + "1;", 0, -1);
        }
        Check.programMarked("let if = 1 in if", 0);
        Check.programMarked("let if00 = 1 in if00", 0);
    }

    /** "r1 .. r15 are REGISTERS". */
    private static void registers() {
        for (int k = 1; k <= 15; k++) {
            Check.blocksFault("s: {} mov r" + k + ", 1; mov r1, r" + k + "; halt;", 0, -1);
            Check.blocksFault("r" + k + ": {} jmp s;", 1, 0);
            Check.programFault("let r" + k + " = 1 in r" + k, 0, -1);
        }
        for (String name : "r0 r16 r01 r015 r R1 r1x r100 r150 rr1 r1r1".split(" ")) {
            Check.blocksFault("s: {} mov " + name + ", 1; halt;", 1, 10);
            Check.blocksFault(name + ": {} jmp " + name + ";", 0, -1);
        }
    }

    /** Names are unlike if any of their bytes is. */
    private static void unlikeNames() {
        String symbols = "0123456789ABCDEFGHIJKLMNOPQRSTUVWXYZabcdefghijklmnopqrstuvwxyz";
        for (int i = 0; i < symbols.length(); i++) {
            TypedDescent x = new TypedDescent();
            for (int k = 0; k < symbols.length(); k++) {
                Check.due("let x" + symbols.charAt(i) + " and x" + symbols.charAt(k), Check.program(x,
                    "let x" + symbols.charAt(i) + "=1 in x" + symbols.charAt(k)), i == k ? 0 : 3);
                if (i >= 10 && k >= 10) {
                    Check.due("let " + symbols.charAt(i) + " and " + symbols.charAt(k), Check.program(x,
                        "let " + symbols.charAt(i) + "=1 in " + symbols.charAt(k)), i == k ? 0 : 3);
                }
            }
        }
        String name = "q0q0q0q0q0";
        for (int i = 0; i < name.length(); i++) {
            String other = name.substring(0, i) + (i % 2 == 0 ? "Q" : "1") + name.substring(i + 1);
            Check.programMarked("let " + name + "=1 in ^" + other, 3);
            Check.blocksMarked(name + ":{}jmp ^" + other + ";", 4);
            Check.blocksMarked("s:{}" + HALT + name + ":{}jmp s;" + other + ":{}jmp s;", 0);
        }
        for (int n = 1; n < 10; n++) {
            Check.programMarked("let " + name + "=1 in ^" + name.substring(0, n), 3);
            Check.programMarked("let " + name.substring(0, n) + "=1 in ^" + name.substring(0, n + 1), 3);
        }
    }

    /** A text ends behind its n bytes, whatever the tape has behind them, now or from before. */
    private static void cutTexts() {
        cut("1", "x", 0, -1);
        cut("1", "2147483647", 0, -1);
        cut("2147483647", "0", 0, -1);
        cut("1+2", "x", 0, -1);
        cut("let abcdefghij=1 in abcdefghij", "k", 0, -1);
        cut("let x=1 in x", "y", 0, -1);
        cut("1-", ">", 1, 2);
        cut("fun x:int-", ">int.x", 1, 9);
        cut("fun x:int->", ">", 1, 11);
        cut("1 %", "\n@", 0, -1);
        cut("let x=1 i", "n x", 1, 9);
        cut("let x=1 in fu", "n y:int.y", 3, 11);
        cut("1+", "1", 1, 2);
        cut("", "1", 1, 0);
        cut("1 ", "@", 0, -1);
        TypedDescent x = new TypedDescent();
        Check.feed(x, Check.bytes("s:{}jmp s;l:{}jmp s;"));
        Check.due("one block", x.blocks(10), 0);
        Check.due("label 1", x.label(1), -1);
        Check.feed(x, Check.bytes("s:{}mov r1,-1;halt;"));
        Check.due("a sign at the end", x.blocks(12), 1);
        Check.due("its place", x.place(), 12);
    }

    private static void cut(String text, String behind, int fault, int place) {
        TypedDescent x = new TypedDescent();
        Check.feed(x, Check.bytes(text + behind));
        Check.due("fault of " + text + " ahead of " + behind, x.program(text.length()), fault);
        Check.due("place of " + text + " ahead of " + behind, x.place(), place);
        // bytes of a text that was there before
        Check.feed(x, Check.bytes(text + behind));
        x.program(0);
        if (text.length() >= 20) {
            return;
        }
        Check.feed(x, Check.bytes(text + " ".repeat(20 - text.length())));
        Check.due("fault of " + text, x.program(text.length()), fault);
        Check.due("place of " + text, x.place(), place);
    }
}
