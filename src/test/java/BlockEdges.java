/** The FAULTS of blocks: each bound of the document at its last that is allowed and its first that is not. */
public final class BlockEdges {
    private static final String HALT = "mov r1,0;halt;";
    private static final String START = "s:{}" + HALT;
    private static final int MOST_OPEN = 30;

    public static void main(String[] args) {
        empty();
        lastInstruction();
        tokens();
        blocks();
        vars();
        fields();
        fieldNumbers();
        openInKinds();
        openInValues();
        openEnds();
        twice();
        labels();
        registerNames();
        kindNames();
        fieldsThatAreThere();
        fieldsThatAreStored();
        moreOfQuestion();
        files();
        instances();
        packs();
        leaps();
        halts();
        firstBlock();
        nothingMoreIsAsked();
        labelsOfFaultyBlocks();
        leastNumber();
        chains();
        Check.end();
    }

    private static String row(String part, int n) {
        return "<" + (n == 0 ? "" : part + ("," + part).repeat(n - 1)) + ">";
    }

    private static void empty() {
        Check.blocksFault("", 1, 0);
        Check.blocksFault(" ", 1, 1);
        Check.blocksFault("%", 1, 1);
        Check.blocksMarked("s:{}^", 1);
        Check.blocksMarked("s:^", 1);
        Check.blocksMarked("s^", 1);
        Check.blocksMarked(START, 0);
        Check.blocksMarked("s:{}malloc r2<>;" + HALT, 0);
        Check.blocksMarked(START + "l:{r2:<>,r3:code{}}" + HALT, 0);
        Check.blocksMarked(START + "l:[^]{}" + HALT, 1);
        Check.blocksMarked(START + "l:{r2:code[^]{}}" + HALT, 1);
        Check.blocksMarked(START + "l:{^,}" + HALT, 1);
        Check.blocksMarked(START + "l:[a]^" + HALT, 1);
    }

    /** "The last one of a block, and no other one, is jmp or halt". */
    private static void lastInstruction() {
        Check.blocksMarked("s:{}jmp s;", 0);
        Check.blocksMarked("s:{}jmp s;l:{}jmp s;", 0);
        Check.blocksMarked("s:{}^l:{}jmp s;", 1);
        Check.blocksMarked("s:{}mov r1,1;^l:{}jmp s;", 1);
        Check.blocksMarked("s:{}mov r1,1;bnz r1,s;^", 1);
        Check.blocksMarked("s:{}mov r1,1;bnz r1,s;^l:{}jmp s;", 1);
        Check.blocksMarked("s:{}jmp s;^jmp s;", 1);
        Check.blocksMarked("s:{}jmp s;^mov r1,1;", 1);
        Check.blocksMarked("s:{}mov r1,1;halt;^halt;", 1);
        Check.blocksMarked("s:{}mov r1,1;halt;^;", 1);
        Check.blocksMarked("s:{}jmp s^", 1);
    }

    /** "a 1201st token". */
    private static void tokens() {
        String full = "s:{}" + "mov r1,1;".repeat(236) + "add r1,r1,1;".repeat(2) + "halt;";
        Check.blocksFault(full, 0, -1);
        Check.blocksFault(" %none\n" + full + "%none", 0, -1);
        Check.blocksFault(full + "t", 2, full.length());
        Check.blocksFault(full + " t:{}", 2, full.length() + 1);
        for (String wrong : new String[] {"halt;", "mov", ";", "1", "r1", "@", "{", "2147483648", "abcdefghijk"}) {
            Check.blocksFault(full + wrong, 1, full.length());
        }
        String over = "s:{}" + "mov r1,1;".repeat(239) + "halt;";
        Check.blocksFault(over, 2, over.length() - 1);
        Check.blocksFault(over + "t:{}", 2, over.length() - 1);
        Check.blocksFault(over.substring(0, over.length() - 1), 1, over.length() - 1);
        Check.blocksFault(over.substring(0, over.length() - 1) + ",", 1, over.length() - 1);
        // faults of other sorts are of no matter then
        Check.blocksFault(over.replaceFirst("mov r1,1", "mov r1,z"), 2, over.length() - 1);
        Check.blocksFault(full.replaceFirst("mov r1,1", "mov r1,z"), 4, 11);
    }

    /** "a 41st block". */
    private static void blocks() {
        StringBuilder text = new StringBuilder();
        for (int i = 1; i <= 39; i++) {
            text.append("b").append(i).append(":{}jmp b1;");
        }
        Check.blocksFault(text.toString(), 0, -1);
        text.append("b40:{}jmp b40;");
        Check.blocksFault(text.toString(), 0, -1);
        Check.blocksFault(text + " b41:{}jmp b1;", 2, text.length() + 1);
        Check.blocksFault(text + "b41", 2, text.length());
        Check.blocksFault(text + "b1:{}jmp b1;", 2, text.length());
        Check.blocksFault(text + "jmp", 1, text.length());
        Check.blocksFault(text + "r1", 1, text.length());
        Check.blocksFault(text + "}", 1, text.length());
    }

    private static String names(int n) {
        StringBuilder names = new StringBuilder();
        for (int i = 0; i < n; i++) {
            names.append(i == 0 ? "" : " ").append((char) ('a' + i));
        }
        return names.toString();
    }

    /** "a 17th of vars". */
    private static void vars() {
        for (int n = 1; n <= 16; n++) {
            Check.blocksMarked(START + "l:[" + names(n) + "]{}" + HALT, 0);
            Check.blocksMarked(START + "l:{r2:code[" + names(n) + "]{}}" + HALT, 0);
        }
        Check.blocksMarked(START + "l:[" + names(16) + " ^q]{}" + HALT, 2);
        Check.blocksMarked(START + "l:[" + names(16) + " ^a]{}" + HALT, 2);
        Check.blocksMarked(START + "l:[" + names(16) + " ^q r]{}" + HALT, 2);
        Check.blocksMarked(START + "l:{r2:code[" + names(16) + " ^q]{}}" + HALT, 2);
        Check.blocksMarked(START + "l:[" + names(16) + " ^1]{}" + HALT, 1);
        Check.blocksMarked(START + "l:[" + names(16) + " ^int]{}" + HALT, 1);
        Check.blocksMarked(START + "l:[" + names(16) + " ^{}" + HALT, 1);
        // those of a block and of a code are not counted together
        Check.blocksMarked(START + "l:[" + names(16) + "]{r2:code[" + names(16) + "]{}}" + HALT, 0);
        Check.blocksMarked("s:{}jmp l" + "[int]".repeat(16) + ";l:[" + names(16) + "]{}" + HALT, 0);
        Check.blocksMarked("s:{}jmp ^l" + "[int]".repeat(15) + ";l:[" + names(16) + "]{}" + HALT, 5);
        Check.blocksMarked("s:{}jmp ^l" + "[int]".repeat(17) + ";l:[" + names(16) + "]{}" + HALT, 5);
    }

    /** "a 9th field or kind of malloc". */
    private static void fields() {
        for (int n = 0; n <= 8; n++) {
            Check.blocksMarked(START + "l:{r2:" + row("int", n) + "}" + HALT, 0);
            Check.blocksMarked(START + "l:{r2:" + row("int?", n) + "}" + HALT, 0);
            Check.blocksMarked("s:{}malloc r2" + row("int", n) + ";" + HALT, 0);
        }
        String kind = START + "l:{r2:" + row("int", 8).replace(">", ",");
        String made = "s:{}malloc r2" + row("int", 8).replace(">", ",");
        for (String ninth : new String[] {"int", "a", "<>", "code{}", "some a.a"}) {
            Check.blocksMarked(kind + "^" + ninth + ">}" + HALT, 2);
            Check.blocksMarked(made + "^" + ninth + ">;" + HALT, 2);
        }
        for (String wrong : new String[] {">", ",", "1", "r1", "?", "@", ""}) {
            Check.blocksMarked(kind + "^" + wrong, 1);
            Check.blocksMarked(made + "^" + wrong, 1);
        }
        Check.blocksMarked(START + "l:{r2:" + row(row("int", 8), 8) + "}" + HALT, 0);
        Check.blocksMarked("s:{}malloc r2" + row(row("int", 8), 8) + ";" + HALT, 0);
        Check.blocksMarked(START + "l:{r2:" + row("int?", 8).replace(">", ",^int?>}") + HALT, 2);
    }

    /** "a number of ld or st above 7". */
    private static void fieldNumbers() {
        String made = "s:{}mov r3,1;malloc r2" + row("int", 8) + ";";
        for (int k = 0; k <= 7; k++) {
            Check.blocksMarked(made + "st r2(" + k + "),r3;ld r4,r2(" + k + ");" + HALT, 0);
        }
        Check.blocksMarked(made + "st r2(007),r3;ld r4,r2(07);" + HALT, 0);
        for (String over : new String[] {"8", "9", "08", "10", "256", "2147483647"}) {
            Check.blocksMarked(made + "st r2(^" + over + "),r3;" + HALT, 2);
            Check.blocksMarked(made + "ld r4,r2(^" + over + ");" + HALT, 2);
        }
        for (String wrong : new String[] {"2147483648", "-1", "r1", "a", ")", "1a"}) {
            Check.blocksMarked(made + "st r2(^" + wrong + "),r3;" + HALT, 1);
            Check.blocksMarked(made + "ld r4,r2(^" + wrong + ");" + HALT, 1);
        }
    }

    /** At the limit there is no fault, with one more around it the one at the mark is ROOM. */
    private static void limit(int own, String marked) {
        String bare = marked.replace("^", "");
        within(own, bare);
        int around = MOST_OPEN - own;
        Check.blocksMarked(START + "l:{r2:" + "<".repeat(around) + marked + ">".repeat(around) + "}" + HALT, 2);
    }

    /** In the { of a file, with so many < around that as many are open as may be. */
    private static void within(int own, String kind) {
        int around = MOST_OPEN - 1 - own;
        Check.blocksMarked(START + "l:{r2:" + "<".repeat(around) + kind + ">".repeat(around) + "}" + HALT, 0);
    }

    /** "a 31st that is open of ( [ { <, code, some, pack". */
    private static void openInKinds() {
        limit(1, "^<>");
        limit(1, "^<int>");
        limit(1, "^some a.a");
        limit(2, "some a.^<>");
        limit(2, "some a.^some b.a");
        limit(2, "code^{}");
        limit(2, "code^[a]{}");
        limit(3, "code{r1:^<>}");
        limit(3, "code{r1:int,r2:^some a.a}");
        limit(4, "code{r1:code^{}}");
        limit(4, "code{r1:code^[a]{}}");
        limit(3, "code[a]{r1:^<a>}");
        String full = START + "l:{r2:" + "<".repeat(29);
        Check.blocksMarked(full + "^code{}", 2);
        Check.blocksMarked(full + "^some", 2);
        Check.blocksMarked(full + "^<", 2);
        Check.blocksMarked(full + "^[", 1);
        Check.blocksMarked(full + "^{", 1);
        Check.blocksMarked(full + "^(", 1);
        Check.blocksMarked(full + "^pack", 1);
    }

    private static void openInValues() {
        Check.blocksMarked("s:{}malloc r2" + "<".repeat(30) + ">".repeat(30) + ";" + HALT, 0);
        Check.blocksMarked("s:{}malloc r2" + "<".repeat(30) + "^<>" + ">".repeat(30) + ";" + HALT, 2);
        String everyKind = ";l:[a]{}" + HALT;
        Check.blocksMarked("s:{}jmp l[" + "<".repeat(29) + ">".repeat(29) + "]" + everyKind, 0);
        Check.blocksMarked("s:{}jmp l[" + "<".repeat(29) + "^<>" + ">".repeat(29) + "]" + everyKind, 2);
        // of pack and its [: up to the ], the pack itself up to the end of the kind behind as
        Check.blocksMarked("s:{}mov r2,pack[" + "<".repeat(28) + ">".repeat(28) + ",1]as some a.int;" + HALT, 0);
        Check.blocksMarked("s:{}mov r2,pack[" + "<".repeat(28) + "^<>" + ">".repeat(28) + ",1]as some a.int;" + HALT, 2);
        Check.blocksMarked("s:{}mov r2,pack[int,^1]as some a." + "<".repeat(28) + ">".repeat(28) + ";" + HALT, 5);
        Check.blocksMarked("s:{}mov r2,pack[int,1]as some a." + "<".repeat(28) + "^<>" + ">".repeat(28) + ";" + HALT, 2);
        Check.blocksMarked("s:{}mov r2,^pack[int,1]as some a.a[" + "<".repeat(29) + ">".repeat(29) + "];" + HALT, 5);
        Check.blocksMarked("s:{}mov r2,pack[int,1]as some a.a[" + "<".repeat(29) + "^<>" + ">".repeat(29) + "];" + HALT, 2);
        Check.blocksMarked("s:{}mov r2," + packs(15, "1") + ";" + HALT, 0);
        Check.blocksMarked("s:{}mov r2," + packs(15, "^pack[int,1]as some a.int") + ";" + HALT, 2);
        Check.blocksMarked("s:{}mov r2," + packs(15, "s^[int]") + ";" + HALT, 2);
        Check.blocksMarked("s:{}mov r2," + packs(14, "^s[<>]") + ";" + HALT, 5);
        Check.blocksMarked("s:{}mov r2," + packs(14, "s[<^<>>]") + ";" + HALT, 2);
    }

    /** So many packs, one within the other, each of the kind that it must be. */
    private static String packs(int n, String inner) {
        String value = inner;
        for (int i = 1; i <= n; i++) {
            value = "pack[int," + value + "]as " + "some a.".repeat(i) + "int";
        }
        return value;
    }

    /** What has come to its end is open no more. */
    private static void openEnds() {
        within(3, "<code{},code{},some a.a,<>>");
        within(3, "<code[a]{r1:a},code[a]{r1:int,r2:a},code{}>");
        within(2, "<some a.a,some a.a,<>>");
        within(3, "some a.<some b.b,some b.a,<>>");
        within(2, "code[a b c]{r1:int,r2:a}");
        within(4, "code{r1:code{},r2:code{},r3:code[a]{}}");
        Check.blocksMarked("s:{}mov r3,1;malloc r2<int>;" + "st r2(0),r3;".repeat(40) + "ld r3,r2(0);".repeat(40) + HALT, 0);
        Check.blocksMarked("s:{}" + "malloc r2<<>,<>>;".repeat(40) + HALT, 0);
        Check.blocksMarked("s:{}" + "mov r2,pack[int,1]as some a.a;".repeat(40) + HALT, 0);
        Check.blocksMarked("s:{}" + "mov r2,l[int][<>];".repeat(40) + HALT + "l:[a b]{}" + HALT, 0);
        StringBuilder many = new StringBuilder(START);
        for (int i = 0; i < 39; i++) {
            many.append("l").append(i).append(":[a]{r1:a}jmp s;");
        }
        Check.blocksMarked(many.toString(), 0);
    }

    /** "TWICE: a label, a register of a file, a name of vars that is told there already; unpack's name". */
    private static void twice() {
        Check.blocksMarked("s:{}jmp s;l:{}jmp s;^s:{}jmp s;", 3);
        Check.blocksMarked("s:{}jmp s;l:{}jmp s;m:{}jmp s;^l:{}jmp s;", 3);
        Check.blocksMarked("s:{}jmp s;S:{}jmp s;s1:{}jmp s;", 0);
        for (int k = 1; k <= 15; k++) {
            int other = k % 15 + 1;
            Check.blocksMarked(START + "l:{r" + k + ":int,r" + other + ":int}" + HALT, 0);
            Check.blocksMarked(START + "l:{r" + k + ":int,r" + other + ":int,^r" + k + ":<>}" + HALT, 3);
            Check.blocksMarked(START + "l:{r2:code{r" + k + ":int,^r" + k + ":int}}" + HALT, 3);
            Check.blocksMarked(START + "l:{r" + k + ":code{r" + k + ":int}}" + HALT, 0);
        }
        StringBuilder all = new StringBuilder("r1:int");
        for (int k = 2; k <= 15; k++) {
            all.append(",r").append(k).append(":int");
        }
        Check.blocksMarked(START + "l:{" + all + "}halt;", 0);
        for (int k = 1; k <= 15; k++) {
            Check.blocksMarked(START + "l:{" + all + ",^r" + k + ":int}halt;", 3);
        }
        Check.blocksMarked(START + "l:[a ^a]{}" + HALT, 3);
        Check.blocksMarked(START + "l:[" + names(15) + " ^o]{}" + HALT, 3);
        Check.blocksMarked(START + "l:[" + names(15) + " ^a]{}" + HALT, 3);
        Check.blocksMarked(START + "l:[a A aa a1]{}" + HALT, 0);
        Check.blocksMarked(START + "l:[a]{r2:code[b ^b]{}}" + HALT, 3);
        Check.blocksMarked(START + "l:[a]{r2:code[a]{r3:some a.a}}" + HALT, 0);
        Check.blocksMarked(START + "l:[a]{}" + HALT + "m:[a]{}" + HALT, 0);
        String pack = ",r2,pack[int,1]as some c.c;";
        Check.blocksMarked("s:{}unpack a" + pack + "unpack ^a" + pack + HALT, 3);
        Check.blocksMarked("s:{}unpack a" + pack + "unpack b" + pack + "unpack ^a" + pack + HALT, 3);
        Check.blocksMarked("s:{}unpack a" + pack + "unpack b" + pack + "unpack c" + pack + HALT, 0);
        Check.blocksMarked(START + "l:[a b]{}unpack ^a" + pack + HALT, 3);
        Check.blocksMarked(START + "l:[a b]{}unpack ^b" + pack + HALT, 3);
        Check.blocksMarked(START + "l:[a b]{}unpack c" + pack + "unpack ^c" + pack + HALT, 3);
        // a name of another block, of a code or some, and a label's are none of the block's
        Check.blocksMarked(START + "l:[a]{}" + HALT + "m:{r3:code[b]{}}unpack a" + pack + "unpack b" + pack + HALT, 0);
        Check.blocksMarked("s:{}unpack s" + pack + HALT, 0);
        Check.blocksMarked("s:{}unpack a" + pack + HALT + "l:{}unpack a" + pack + HALT, 0);
    }

    /** "NAME: a label .. that is not there". */
    private static void labels() {
        Check.blocksMarked("s:{}jmp s;", 0);
        Check.blocksMarked("s:{}jmp ^S;", 4);
        Check.blocksMarked("s:{}jmp ^ss;", 4);
        Check.blocksMarked("s:{}jmp l;l:{}jmp m;m:{}jmp s;", 0);
        Check.blocksMarked("s:{}jmp l;l:{}jmp m;m:{}jmp ^n;", 4);
        Check.blocksMarked("s:{}mov r2,^l[int];" + HALT, 4);
        Check.blocksMarked("s:{}mov r2,pack[int,^l]as some a.a;" + HALT, 4);
        Check.blocksMarked(START + "l:[a]{}jmp ^a;", 4);
        Check.blocksMarked("s:{}unpack a,r2,pack[int,1]as some b.b;jmp ^a;", 4);
    }

    /** "a register without a kind". */
    private static void registerNames() {
        for (int k = 1; k <= 15; k++) {
            String r = "r" + k;
            Check.blocksMarked("s:{}mov r1,^" + r + ";halt;", 4);
            Check.blocksMarked("s:{}mov " + r + ",5;mov r1," + r + ";halt;", 0);
            Check.blocksMarked("s:{}mov " + r + ",5;jmp l;l:{}mov r1,^" + r + ";halt;", 4);
            Check.blocksMarked("s:{}mov " + r + ",5;jmp l;l:{" + r + ":int}mov r1," + r + ";halt;", 0);
            Check.blocksMarked("s:{}mov " + r + ",5;jmp m;l:{}mov r1,^" + r + ";halt;m:{" + r + ":int}" + HALT, 4);
        }
        Check.blocksMarked("s:{}mov r2,^r2;" + HALT, 4);
        Check.blocksMarked("s:{}add r2,^r2,1;" + HALT, 4);
        Check.blocksMarked("s:{}ld r2,^r2(0);" + HALT, 4);
        Check.blocksMarked("s:{}malloc r2<int>;st r2(0),^r3;" + HALT, 4);
        Check.blocksMarked("s:{}jmp ^r2;", 4);
        Check.blocksMarked("s:{}mov r3,pack[int,^r2]as some a.a;" + HALT, 4);
        Check.blocksMarked("s:{}mov r3,^r2[int];" + HALT, 4);
    }

    /** "a kind's name that is not there": "the block's vars, unpack's names, and those of code and some around them". */
    private static void kindNames() {
        Check.blocksMarked(START + "l:[a]{r2:a}malloc r3<a>;" + HALT, 0);
        Check.blocksMarked(START + "l:[a]{r2:^b}" + HALT, 4);
        Check.blocksMarked(START + "l:[a]{r2:a}" + HALT + "m:{r2:^a}" + HALT, 4);
        Check.blocksMarked(START + "m:{r2:^a}" + HALT + "l:[a]{r2:a}" + HALT, 4);
        Check.blocksMarked(START + "l:{r2:<some a.a,^a>}" + HALT, 4);
        Check.blocksMarked(START + "l:{r2:some a.<a,a>}" + HALT, 0);
        Check.blocksMarked(START + "l:{r2:code[a]{r3:a},r3:^a}" + HALT, 4);
        Check.blocksMarked(START + "l:{r2:code[a b]{r3:<a,b>,r4:some c.<a,b,c>}}" + HALT, 0);
        Check.blocksMarked(START + "l:{r2:code[a b]{r3:<a,b>,r4:<some c.c,^c>}}" + HALT, 4);
        String unpack = "unpack a,r2,pack[int,1]as some b.b;";
        Check.blocksMarked("s:{}" + unpack + "malloc r3<a>;" + HALT, 0);
        Check.blocksMarked("s:{}malloc r3<^a>;" + unpack + HALT, 4);
        Check.blocksMarked("s:{}" + unpack + "malloc r3<^b>;" + HALT, 4);
        Check.blocksMarked("s:{}unpack a,r2,pack[^a,1]as some b.b;" + HALT, 4);
        Check.blocksMarked("s:{}unpack a,r2,pack[int,1]as some b.^a;" + HALT, 4);
        Check.blocksMarked("s:{}" + unpack + HALT + "l:{}malloc r3<^a>;" + HALT, 4);
        Check.blocksMarked("s:{}malloc r3<^s>;" + HALT, 4);
        Check.blocksMarked("s:{}mov r2,pack[^a,1]as some a.a;" + HALT, 4);
        Check.blocksMarked("s:{}mov r2,pack[int,1]as some a.<^b>;" + HALT, 4);
        // the innermost one
        Check.blocksMarked(START + "l:[a]{r2:a,r3:some a.a}mov r4,pack[int,1]as some a.a;" + HALT, 0);
        Check.blocksMarked(START + "l:[a]{r2:a}mov r4,pack[int,^r2]as some a.a;" + HALT, 5);
        Check.blocksMarked(START + "l:[a]{r2:a}mov r4,pack[a,r2]as some a.a;" + HALT, 0);
    }

    /** "ld: the second is a < > with that field (from 0 on), there". */
    private static void fieldsThatAreThere() {
        for (int n = 0; n <= 8; n++) {
            for (int k = 0; k <= 7; k++) {
                String ready = START + "l:{r2:" + row("int", n) + "}ld r1,";
                Check.blocksMarked(ready + (k < n ? "" : "^") + "r2(" + k + ");halt;", k < n ? 0 : 5);
                String missing = START + "l:{r2:" + row("int?", n) + "}ld r1,^r2(" + k + ");halt;";
                Check.blocksMarked(missing, 5);
            }
        }
        Check.blocksMarked(START + "l:{r2:<int?,int>}ld r1,r2(1);halt;", 0);
        Check.blocksMarked(START + "l:{r2:<int?,int>}ld r1,^r2(0);halt;", 5);
        Check.blocksMarked(START + "l:{r2:<<int?>>}ld r2,r2(0);" + HALT, 0);
        Check.blocksMarked(START + "l:{r2:<<int?>>}ld r2,r2(0);ld r1,^r2(0);halt;", 5);
        Check.blocksMarked(START + "l:{r2:<some a.a>}ld r3,r2(0);unpack a,r3,r3;" + HALT, 0);
        for (String none : new String[] {"int", "code{}", "some a.<a>", "a"}) {
            Check.blocksMarked(START + "l:[a]{r2:" + none + "}ld r1,^r2(0);halt;", 5);
            Check.blocksMarked(START + "l:[a]{r2:" + none + ",r3:int}st ^r2(0),r3;" + HALT, 5);
        }
    }

    /** "st: the first is a < > with that field, which is of just the kind of the second, and there from then on". */
    private static void fieldsThatAreStored() {
        for (int n = 0; n <= 8; n++) {
            for (int k = 0; k <= 7; k++) {
                String made = "s:{}mov r3,1;malloc r2" + row("int", n) + ";st ";
                Check.blocksMarked(made + (k < n ? "" : "^") + "r2(" + k + "),r3;" + HALT, k < n ? 0 : 5);
                if (k < n) {
                    Check.blocksMarked(made + "r2(" + k + "),r3;ld r1,r2(" + k + ");halt;", 0);
                    Check.blocksMarked("s:{}mov r3,1;malloc r2" + row("int", n) + ";ld r1,^r2(" + k + ");halt;", 5);
                }
                if (k + 1 < n) {
                    Check.blocksMarked(made + "r2(" + k + "),r3;ld r1,^r2(" + (k + 1) + ");halt;", 5);
                }
            }
        }
        // in this register's kind
        Check.blocksMarked("s:{}mov r3,1;malloc r2<int>;mov r4,r2;st r2(0),r3;ld r1,^r4(0);halt;", 5);
        Check.blocksMarked("s:{}mov r3,1;malloc r2<int>;st r2(0),r3;mov r4,r2;ld r1,r4(0);halt;", 0);
        Check.blocksMarked("s:{}mov r3,1;malloc r2<int>;st r2(0),r3;malloc r2<int>;ld r1,^r2(0);halt;", 5);
        Check.blocksMarked("s:{}mov r3,1;malloc r2<int>;st r2(0),r3;st r2(0),r3;ld r1,r2(0);halt;", 0);
        // of just the kind
        Check.blocksMarked("s:{}malloc r2<<int>>;malloc r3<int>;st r2(0),^r3;" + HALT, 5);
        Check.blocksMarked("s:{}malloc r2<<int?>>;malloc r3<int>;st r2(0),r3;" + HALT, 0);
        Check.blocksMarked("s:{}malloc r2<<int?>>;malloc r3<int>;mov r4,1;st r3(0),r4;st r2(0),^r3;" + HALT, 5);
        Check.blocksMarked("s:{}malloc r2<<int>>;malloc r3<int>;mov r4,1;st r3(0),r4;st r2(0),r3;" + HALT, 0);
        Check.blocksMarked("s:{}malloc r2<code{}>;mov r3,s;st r2(0),r3;" + HALT, 0);
        Check.blocksMarked("s:{}malloc r2<code{r1:int}>;mov r3,s;st r2(0),^r3;" + HALT, 5);
        Check.blocksMarked("s:{}malloc r2<<>>;st r2(0),^r2;" + HALT, 5);
    }

    /** "having more of ? at its own fields (not within their kinds)". */
    private static void moreOfQuestion() {
        String[] kinds = {"<int,int>", "<int?,int>", "<int,int?>", "<int?,int?>"};
        for (int i = 0; i < 4; i++) {
            for (int j = 0; j < 4; j++) {
                boolean fits = (i & ~j) == 0;
                Check.blocksMarked(START + "l:{r2:" + kinds[i] + "}jmp " + (fits ? "" : "^") + "m;m:{r2:" + kinds[j] + "}"
                    + HALT, fits ? 0 : 5);
                boolean same = i == j;
                String jump = "jmp " + (same ? "" : "^") + "m;";
                Check.blocksMarked(START + "l:{r2:<" + kinds[i] + ">}" + jump + "m:{r2:<" + kinds[j] + ">}" + HALT,
                    same ? 0 : 5);
                Check.blocksMarked(START + "l:{r2:some a." + kinds[i] + "}" + jump + "m:{r2:some b." + kinds[j] + "}" + HALT,
                    same ? 0 : 5);
                Check.blocksMarked(START + "l:{r2:code{r1:" + kinds[i] + "}}" + jump + "m:{r2:code{r1:" + kinds[j] + "}}"
                    + HALT, same ? 0 : 5);
            }
        }
        for (int n = 0; n <= 8; n++) {
            for (int m = 0; m <= 8; m++) {
                Check.blocksMarked(START + "l:{r2:" + row("int", n) + "}jmp " + (n == m ? "" : "^") + "m;m:{r2:"
                    + row("int?", m) + "}" + HALT, n == m ? 0 : 5);
            }
        }
        Check.blocksMarked(START + "l:{r2:<int>}jmp ^m;m:{r2:<<>?>}" + HALT, 5);
        Check.blocksMarked(START + "l:{r2:<int>}jmp ^m;m:{r2:int}" + HALT, 5);
        Check.blocksMarked(START + "l:{r2:int}jmp ^m;m:{r2:<int?>}" + HALT, 5);
        Check.blocksMarked(START + "l:{r2:<>}jmp ^m;m:{r2:code{}}" + HALT, 5);
    }

    /** "a FILE fits another one, if it has all of its registers, each with a kind that fits". */
    private static void files() {
        Check.blocksMarked("s:{}jmp l;l:{}" + HALT, 0);
        Check.blocksMarked("s:{}mov r2,1;jmp l;l:{}" + HALT, 0);
        Check.blocksMarked("s:{}mov r2,1;jmp l;l:{r2:int}" + HALT, 0);
        Check.blocksMarked("s:{}mov r2,1;jmp ^l;l:{r2:int,r3:int}" + HALT, 5);
        Check.blocksMarked("s:{}mov r2,1;mov r3,s;jmp ^l;l:{r2:int,r3:int}" + HALT, 5);
        Check.blocksMarked("s:{}mov r2,1;mov r3,2;jmp l;l:{r3:int,r2:int}" + HALT, 0);
        StringBuilder moves = new StringBuilder();
        StringBuilder file = new StringBuilder();
        for (int k = 15; k >= 1; k--) {
            moves.append("mov r").append(k).append(",1;");
            file.append(k == 15 ? "" : ",").append("r").append(k).append(":int");
        }
        Check.blocksMarked("s:{}" + moves + "jmp l;l:{" + file + "}halt;", 0);
        for (int k = 1; k <= 15; k++) {
            String less = moves.toString().replace("mov r" + k + ",1;", "");
            Check.blocksMarked("s:{}" + less + "jmp ^l;l:{" + file + "}halt;", 5);
        }
        // the order does not count, nor do names behind [ ] and some; the order of vars does
        String told = START + "l:{r2:code[a b]{r3:a,r4:b}}jmp ";
        Check.blocksMarked(told + "m;m:{r2:code[c d]{r4:d,r3:c}}" + HALT, 0);
        Check.blocksMarked(told + "m;m:{r2:code[b a]{r4:a,r3:b}}" + HALT, 0);
        Check.blocksMarked(told + "^m;m:{r2:code[b a]{r3:a,r4:b}}" + HALT, 5);
        Check.blocksMarked(told + "^m;m:{r2:code[a b c]{r3:a,r4:b}}" + HALT, 5);
        Check.blocksMarked(told + "^m;m:{r2:code[a b]{r3:a}}" + HALT, 5);
        Check.blocksMarked(told + "^m;m:{r2:code[a b]{r3:a,r4:b,r5:b}}" + HALT, 5);
        Check.blocksMarked(START + "l:{r2:some a.some b.<a,b>}jmp m;m:{r2:some b.some a.<b,a>}" + HALT, 0);
        Check.blocksMarked(START + "l:{r2:some a.some b.<a,b>}jmp ^m;m:{r2:some a.some b.<b,a>}" + HALT, 5);
        Check.blocksMarked(START + "l:[a b]{r2:a}jmp l[a][b];", 0);
        Check.blocksMarked(START + "l:[a b]{r2:a}jmp ^l[b][a];", 5);
    }

    /** "v [t]: v is a code with vars: the first of them becomes t". */
    private static void instances() {
        String l = "l:[a b]{r2:a,r3:b}" + HALT;
        Check.blocksMarked("s:{}mov r2,1;mov r3,s;jmp l[int][code{}];" + l, 0);
        Check.blocksMarked("s:{}mov r2,1;mov r3,s;jmp ^l[code{}][int];" + l, 5);
        Check.blocksMarked("s:{}mov r2,1;mov r3,s;jmp ^l[int];" + l, 5);
        Check.blocksMarked("s:{}mov r2,1;mov r3,s;jmp ^l;" + l, 5);
        Check.blocksMarked("s:{}mov r2,1;mov r3,s;mov r4,l[int];jmp r4[code{}];" + l, 0);
        Check.blocksMarked("s:{}mov r2,1;mov r3,s;mov r4,^l[int][code{}][int];jmp r4;" + l, 5);
        for (String none : new String[] {"1", "-1", "s", "pack[int,1]as some c.c"}) {
            Check.blocksMarked("s:{}mov r4,^" + none + "[int];" + HALT, 5);
        }
        Check.blocksMarked("s:{}mov r4,1;mov r4,^r4[int];" + HALT, 5);
        Check.blocksMarked("s:{}malloc r4<>;mov r4,^r4[int];" + HALT, 5);
    }

    /** "pack [t, v] as some a . s: v is of just the kind s with t in place of a". */
    private static void packs() {
        Check.blocksMarked("s:{}mov r2,pack[int,1]as some a.a;" + HALT, 0);
        Check.blocksMarked("s:{}mov r2,pack[int,1]as some a.int;" + HALT, 0);
        Check.blocksMarked("s:{}mov r2,pack[code{},1]as some a.int;" + HALT, 0);
        Check.blocksMarked("s:{}mov r2,pack[code{},^1]as some a.a;" + HALT, 5);
        Check.blocksMarked("s:{}malloc r3<int>;mov r2,pack[int,r3]as some a.<a?>;" + HALT, 0);
        Check.blocksMarked("s:{}malloc r3<int>;mov r2,pack[int,^r3]as some a.<a>;" + HALT, 5);
        Check.blocksMarked(START + "l:{r3:<int>}mov r2,pack[int,^r3]as some a.<a?>;" + HALT, 5);
        Check.blocksMarked(START + "l:{r3:<int>}mov r2,pack[int,r3]as some a.<a>;" + HALT, 0);
        for (String none : new String[] {"int", "<>", "code{}", "<some a.a>"}) {
            Check.blocksMarked("s:{}mov r2,pack[int,1]as ^" + none + ";" + HALT, 5);
            Check.blocksMarked("s:{}mov r2,1;unpack b,r2,pack[int,r2]as ^" + none + ";" + HALT, 5);
        }
        Check.blocksMarked("s:{}mov r2,pack[int,1]as some a.a;unpack b,r3,r2;" + HALT, 0);
        for (String none : new String[] {"1", "s", "-1"}) {
            Check.blocksMarked("s:{}unpack b,r3,^" + none + ";" + HALT, 5);
        }
        Check.blocksMarked("s:{}unpack b,r3,pack[int,^1]as some a.<a>;" + HALT, 5);
        Check.blocksMarked("s:{}unpack b,r1,pack[int,1]as some a.a;^halt;", 5);
        Check.blocksMarked("s:{}unpack b,r2,pack[int,1]as some a.a;unpack c,r3,pack[b,r2]as some a.a;" + HALT, 0);
        Check.blocksMarked("s:{}unpack b,r2,pack[int,1]as some a.a;unpack c,r3,^r2;" + HALT, 5);
        // two unpacks of one some give unlike kinds
        Check.blocksMarked("s:{}mov r2,pack[int,1]as some a.a;unpack b,r3,r2;malloc r4<b>;st r4(0),r3;" + HALT, 0);
        Check.blocksMarked("s:{}mov r2,pack[int,1]as some a.a;unpack b,r3,r2;unpack c,r4,r2;malloc r5<b>;st r5(0),^r4;"
            + HALT, 5);
    }

    /** "bnz: an int, and v a code without vars whose file the kinds of now fit"; "jmp: as bnz". */
    private static void leaps() {
        String rest = "l:{r2:int}" + HALT + "m:[a]{}" + HALT;
        Check.blocksMarked("s:{}mov r2,1;bnz r2,l;" + HALT + rest, 0);
        Check.blocksMarked("s:{}mov r2,s;bnz ^r2,l;" + HALT + rest, 5);
        Check.blocksMarked("s:{}mov r3,1;bnz r3,^l;" + HALT + rest, 5);
        Check.blocksMarked("s:{}mov r3,1;bnz r3,^m;" + HALT + rest, 5);
        Check.blocksMarked("s:{}mov r3,1;bnz r3,m[int];" + HALT + rest, 0);
        Check.blocksMarked("s:{}mov r3,1;bnz r3,^1;" + HALT + rest, 5);
        Check.blocksMarked("s:{}mov r3,1;bnz r3,^r3;" + HALT + rest, 5);
        Check.blocksMarked("s:{}jmp ^-1;", 5);
        Check.blocksMarked("s:{}malloc r3<>;jmp ^r3;", 5);
        Check.blocksMarked("s:{}jmp ^m;" + rest, 5);
        Check.blocksMarked("s:{}mov r2,1;mov r3,l;jmp r3;" + rest, 0);
        Check.blocksMarked("s:{}mov r3,l;jmp ^r3;" + rest, 5);
        // add, sub, mul: both int
        for (String op : new String[] {"add", "sub", "mul"}) {
            Check.blocksMarked("s:{}mov r2,1;" + op + " r1,r2,r2;halt;", 0);
            Check.blocksMarked("s:{}mov r2,s;" + op + " r1,^r2,1;halt;", 5);
            Check.blocksMarked("s:{}mov r2,1;" + op + " r1,r2,^s;halt;", 5);
            Check.blocksMarked("s:{}mov r2,1;mov r3,s;" + op + " r1,r2,^r3;halt;", 5);
            Check.blocksMarked("s:{}mov r2,1;" + op + " r1,r2,^pack[int,1]as some a.a;halt;", 5);
            Check.blocksMarked("s:{}mov r1,s;mov r2,1;" + op + " r1,r2,1;halt;", 0);
        }
    }

    /** "at halt (also if r1 has no kind)". */
    private static void halts() {
        Check.blocksMarked("s:{}^halt;", 5);
        Check.blocksMarked("s:{}mov r2,1;^halt;", 5);
        Check.blocksMarked("s:{}mov r1,1;halt;", 0);
        for (String none : new String[] {"s", "pack[int,1]as some a.a"}) {
            Check.blocksMarked("s:{}mov r1," + none + ";^halt;", 5);
        }
        Check.blocksMarked("s:{}malloc r1<int>;^halt;", 5);
        Check.blocksMarked(START + "l:[a]{r1:a}^halt;", 5);
        Check.blocksMarked(START + "l:{r1:int}halt;", 0);
    }

    /** "the first one of a text has no vars and an empty file". */
    private static void firstBlock() {
        Check.blocksMarked("s:{}" + HALT, 0);
        Check.blocksMarked("s:^{r1:int}halt;", 5);
        Check.blocksMarked("s:^[a]{}" + HALT, 5);
        Check.blocksMarked("s:^[a]{r1:a}" + HALT, 5);
        Check.blocksMarked("s:[a ^a]{r1:a}" + HALT, 3);
        Check.blocksMarked("s:{r1:int,^r1:int}" + HALT, 3);
        Check.blocksMarked("s:{r1:^a}" + HALT, 4);
        Check.blocksMarked(START + "l:[a]{r1:a}" + HALT, 0);
        Check.blocksMarked("s:^{r1:int}" + HALT + "s:{}jmp zz;", 5);
    }

    /** "What has a fault in it is asked nothing more". */
    private static void nothingMoreIsAsked() {
        Check.blocksMarked("s:{}jmp pack[^z,1]as int;", 4);
        Check.blocksMarked("s:{}jmp pack[int,^z]as int;", 4);
        Check.blocksMarked("s:{}jmp pack[int,^r9]as int;", 4);
        Check.blocksMarked("s:{}jmp pack[int,s]as some a.^z;", 4);
        Check.blocksMarked("s:{}jmp pack[int,1]as ^int;", 5);
        Check.blocksMarked("s:{}jmp pack[int,^s]as some a.a;", 5);
        Check.blocksMarked("s:{}mov r2,pack[int,^s[int]]as z;" + HALT, 5);
        Check.blocksMarked("s:{}jmp ^s[z];", 5);
        Check.blocksMarked("s:{}jmp m[^z];m:[a]{r9:a}" + HALT, 4);
        Check.blocksMarked("s:{}unpack a,r2,m[^z];jmp r2;m:[a]{}" + HALT, 4);
        Check.blocksMarked("s:{}add r1,^r2,z;" + HALT, 4);
        Check.blocksMarked("s:{}mov r2,s;bnz ^r2,z;" + HALT, 5);
    }

    /** "nor is a label whose block has one in its vars or file, nor what mov, ld, unpack and [ ] make of such a label". */
    private static void labelsOfFaultyBlocks() {
        String[] faulty = {"b:[a ^a]{}", "b:{r2:^z}", "b:{r2:int,^r2:int}", "b:[a]{r2:<a,some c.<c,^d>>}"};
        int[] faults = {3, 4, 3, 4};
        String[] unasked = {"jmp b;", "jmp b[int];", "mov r2,b;jmp r2;", "mov r1,b;halt;", "mov r2,b;ld r1,r2(7);halt;",
            "unpack c,r1,b;halt;", "mov r2,b[int][int];unpack c,r3,r2;ld r4,r3(0);bnz r4,r4;jmp r4;",
            "mov r2,b;add r1,r2,r2;halt;", "mov r1,1;sub r1,r1,b;halt;", "mov r2,b;mul r1,r2,b;bnz r1,b;jmp s;",
            "mov r2,pack[int,b]as some c.c;unpack d,r3,r2;jmp s;", "malloc r2<int>;mov r3,b;st r2(0),r3;ld r1,r2(0);halt;",
            "mov r2,b;mov r3,1;st r2(7),r3;jmp s;", "mov r2,b;jmp l;l:{r2:<int>}jmp s;",
            "mov r2,b;jmp m[int];m:[a]{r2:a}jmp s;"};
        for (int i = 0; i < faulty.length; i++) {
            for (String text : unasked) {
                Check.blocksMarked("s:{}" + text + faulty[i] + HALT, faults[i]);
            }
        }
        // but add, sub, mul, st and pack make of it what they tell, and all else is asked
        String[] asked = {"mov r2,b;add r3,r2,1;jmp ^r3;", "mov r2,b;sub r3,r2,1;jmp ^r3;", "mov r2,b;mul r3,r2,1;jmp ^r3;",
            "mov r2,pack[int,b]as some c.c;jmp ^r2;", "mov r2,pack[int,b]as some c.int;unpack d,r3,r2;jmp ^r3;",
            "malloc r2<int>;mov r3,b;st r2(0),r3;ld r1,r2(0);jmp ^r1;", "mov r2,b;add r1,r2,^s;halt;",
            "mov r2,b;jmp ^l;l:{r2:int,r3:int}jmp s;", "mov r1,pack[int,b]as ^int;halt;", "mov r2,s;bnz ^r2,b;jmp b;",
            "malloc r2<int>;mov r3,b;st ^r2(1),r3;halt;"};
        for (String text : asked) {
            Check.blocksMarked("s:{}" + text + faulty[1].replace("^", "") + HALT, 5);
        }
        String[] named = {"mov r2,b[^z];halt;", "mov r2,b;st r2(0),^r3;halt;", "mov r2,b;add r1,r2,^r3;halt;",
            "mov r2,pack[int,b]as some c.^z;halt;", "mov r2,pack[^z,b]as some c.c;halt;"};
        for (String text : named) {
            Check.blocksMarked("s:{}" + text + faulty[0].replace("^", "") + HALT, 4);
        }
        // names of one faulty block are none of another one's
        Check.blocksMarked("s:{}jmp m;b:[a ^a]{}" + HALT + "m:{r1:a}" + HALT, 3);
        Check.blocksMarked("s:{}jmp m;b:{r1:some a.<^c>}" + HALT + "m:{r1:a}" + HALT, 4);
        // a fault in its instructions is none of its vars or file
        Check.blocksMarked("s:{}jmp ^b;b:{r2:int}mov r1,z;halt;", 5);
        Check.blocksMarked("s:{}jmp b;b:{}mov r1,^z;halt;", 4);
    }

    /** "of one place the least number counts". */
    private static void leastNumber() {
        Check.blocksMarked(START + "l:{r2:" + "<".repeat(29) + "^[", 1);
        // a label that is told twice, where the first block's vars or file would be asked
        Check.blocksMarked("s:{}jmp s;^s:[a a]{r1:z}" + HALT, 3);
        // unpack's name ahead of what is in its v
        Check.blocksMarked(START + "l:[a]{}unpack ^a,r2,z;" + HALT, 3);
        Check.blocksMarked(START + "l:{r2:code{r1:int,^r1:z}}" + HALT, 3);
    }

    /** As many in a row as the tokens let be. */
    private static void chains() {
        StringBuilder file = new StringBuilder("r1:int");
        for (int k = 2; k <= 15; k++) {
            file.append(",r").append(k).append(":int");
        }
        Check.blocksMarked(START + "l:{" + file + ",^r1:int" + ",r2:int".repeat(100) + "}" + HALT, 3);
        Check.blocksMarked("s:{}jmp ^l" + "[int]".repeat(300) + ";l:[" + names(16) + "]{}" + HALT, 5);
        Check.blocksMarked("s:{}" + "mov r1,1;".repeat(230) + "mov r1,^z;halt;", 4);
        Check.blocksMarked("s:{}mov r1,l[int];jmp r1;l:[a]{}" + HALT, 0);
    }
}
