import java.util.Arrays;
import java.util.HashSet;
import java.util.Set;

/** "SYNTAX: a token (or what is none) with which no text goes on": behind each beginning every token, and the end. */
public final class NextTokens {
    private static final String END = "END";
    private static final String[] PROGRAM_TOKENS = ("x 1 . : , ; ( ) [ ] { } < > # + - * = ? -> int all fun fix typ let in if0"
        + " 2147483648 1x abcdefghijk @ ! \u00e4").split(" ");
    private static final String[] BLOCK_TOKENS = ("x r1 1 . : , ; ( ) [ ] { } < > # + - * = ? -> int code some pack as mov add sub"
        + " mul ld st malloc bnz unpack jmp halt 2147483648 1x abcdefghijk @ ! \u00e4").split(" ");

    /** What an e, a times and a t of a program begin with, and what goes on behind a first. */
    private static final String E = " 1 x ( < # if0 fun fix typ let";
    private static final String TIMES = " 1 x ( < # if0";
    private static final String KIND = " int x all < (";
    private static final String BEHIND = " 1 x ( < # if0 [ + - *";

    /** What a kind, a v and an ins of blocks begin with. */
    private static final String T = " int x < code some";
    private static final String V = " 1 - r1 x pack";
    private static final String INS = " mov add sub mul ld st malloc bnz unpack jmp halt";

    public static void main(String[] args) {
        functions();
        expressions();
        brackets();
        kinds();
        headers();
        kindsOfBlocks();
        values();
        instructions();
        Check.end();
    }

    /** Behind the beginning these tokens go on, and no other one; END is among them if it is a text. */
    private static void program(String beginning, String next) {
        Set<String> due = new HashSet<>(Arrays.asList(next.trim().split(" ")));
        for (String token : PROGRAM_TOKENS) {
            TypedDescent x = new TypedDescent();
            int fault = Check.program(x, beginning + " " + token);
            boolean stops = fault == 1 && x.place() == beginning.length() + 1;
            Check.due(token + " behind " + beginning, stops ? 0 : 1, due.contains(token) ? 1 : 0);
        }
        TypedDescent x = new TypedDescent();
        boolean stops = Check.program(x, beginning) == 1;
        Check.due("the end behind " + beginning, stops ? 0 : 1, due.contains(END) ? 1 : 0);
        Check.due("its place", x.place() == beginning.length() ? 1 : 0, stops ? 1 : 0);
    }

    private static void blocks(String beginning, String next) {
        Set<String> due = new HashSet<>(Arrays.asList(next.trim().split(" ")));
        for (String token : BLOCK_TOKENS) {
            TypedDescent x = new TypedDescent();
            int fault = Check.blocks(x, beginning + " " + token);
            boolean stops = fault == 1 && x.place() == beginning.length() + 1;
            Check.due(token + " behind " + beginning, stops ? 0 : 1, due.contains(token) ? 1 : 0);
        }
        TypedDescent x = new TypedDescent();
        boolean stops = Check.blocks(x, beginning) == 1;
        Check.due("the end behind " + beginning, stops ? 0 : 1, due.contains(END) ? 1 : 0);
        Check.due("its place", x.place() == beginning.length() ? 1 : 0, stops ? 1 : 0);
    }

    private static void functions() {
        program("", E);
        program("fun", "x");
        program("fun x", ":");
        program("fun x :", KIND);
        program("fun x : int", ". ->");
        program("fun x : int .", E);
        program("fun x : int . 1", BEHIND + " END");
        program("fix", "x");
        program("fix f", "(");
        program("fix f (", "x");
        program("fix f ( x", ":");
        program("fix f ( x :", KIND);
        program("fix f ( x : int", ") ->");
        program("fix f ( x : int )", ":");
        program("fix f ( x : int ) :", KIND);
        program("fix f ( x : int ) : int", ". ->");
        program("fix f ( x : int ) : int .", E);
        program("fix f ( x : int ) : int . 1", BEHIND + " END");
        program("typ", "x");
        program("typ a", ".");
        program("typ a .", E);
        program("typ a . 1", BEHIND + " END");
        program("let", "x");
        program("let x", "=");
        program("let x =", E);
        program("let x = 1", BEHIND + " in");
        program("let x = 1 in", E);
        program("let x = 1 in 1", BEHIND + " END");
        program("let x = let y = 1", BEHIND + " in");
        program("let x = let y = 1 in 1", BEHIND + " in");
        program("let x = fun y : int . 1", BEHIND + " in");
        program("let x = typ y . 1", BEHIND + " in");
    }

    private static void expressions() {
        program("1", BEHIND + " END");
        program("x", BEHIND + " END");
        program("1 +", TIMES);
        program("1 -", TIMES);
        program("1 *", TIMES);
        program("1 + 1", BEHIND + " END");
        program("1 * 1", BEHIND + " END");
        program("1 * 1 +", TIMES);
        program("1 + 1 *", TIMES);
        program("x y", BEHIND + " END");
        program("x y z", BEHIND + " END");
        program("#", "1");
        program("# 1", TIMES);
        program("# 8 x", BEHIND + " END");
        program("# 1 #", "1");
        program("if0", "(");
        program("if0 (", E);
        program("if0 ( 1", BEHIND + " ,");
        program("if0 ( 1 ,", E);
        program("if0 ( 1 , 1", BEHIND + " ,");
        program("if0 ( 1 , 1 ,", E);
        program("if0 ( 1 , 1 , 1", BEHIND + " )");
        program("if0 ( 1 , 1 , 1 )", BEHIND + " END");
        program("if0 ( fun x : int . 1", BEHIND + " ,");
    }

    private static void brackets() {
        program("(", E);
        program("( 1", BEHIND + " )");
        program("( 1 )", BEHIND + " END");
        program("( 1 +", TIMES);
        program("( fun x : int . 1", BEHIND + " )");
        program("( let x = 1 in 1", BEHIND + " )");
        program("<", E + " >");
        program("< >", BEHIND + " END");
        program("< 1", BEHIND + " , >");
        program("< 1 ,", E);
        program("< 1 , 1", BEHIND + " , >");
        program("< 1 , 1 >", BEHIND + " END");
        program("< typ a . 1", BEHIND + " , >");
        program("< 1 , 1 , 1 , 1 , 1 , 1 , 1 , 1", BEHIND + " , >");
        program("( <", E + " >");
        program("( < 1 >", BEHIND + " )");
        program("< ( 1 )", BEHIND + " , >");
    }

    private static void kinds() {
        program("x [", KIND);
        program("x [ int", "] ->");
        program("x [ a", "] ->");
        program("x [ int ]", BEHIND + " END");
        program("x [ int ->", KIND);
        program("x [ int -> int", "] ->");
        program("x [ all", "x");
        program("x [ all a", ".");
        program("x [ all a .", KIND);
        program("x [ all a . a", "] ->");
        program("x [ <", KIND + " >");
        program("x [ < >", "] ->");
        program("x [ < int", ", > ->");
        program("x [ < int ,", KIND);
        program("x [ < int , int", ", > ->");
        program("x [ < int -> int", ", > ->");
        program("x [ < all a . a", ", > ->");
        program("x [ (", KIND);
        program("x [ ( int", ") ->");
        program("x [ ( int )", "] ->");
        program("x [ ( all a . a", ") ->");
        program("fun x : all a . a", ". ->");
        program("fun x : ( int )", ". ->");
        program("fun x : < >", ". ->");
    }

    private static void headers() {
        blocks("", "x");
        blocks("s", ":");
        blocks("s :", "[ {");
        blocks("s : [", "x");
        blocks("s : [ a", "x ]");
        blocks("s : [ a b", "x ]");
        blocks("s : [ a ]", "{");
        blocks("s : {", "r1 }");
        blocks("s : { r2", ":");
        blocks("s : { r2 :", T);
        blocks("s : { r2 : int", ", }");
        blocks("s : { r2 : int ,", "r1");
        blocks("s : { r2 : int , r3", ":");
        blocks("s : { }", INS);
        blocks("s : [ a ] { }", INS);
        blocks("s : { r2 : int }", INS);
    }

    private static void kindsOfBlocks() {
        String s = "s : { r2 : ";
        blocks(s + "a", ", }");
        blocks(s + "<", T + " >");
        blocks(s + "< >", ", }");
        blocks(s + "< int", ", > ?");
        blocks(s + "< int ?", ", >");
        blocks(s + "< int ,", T);
        blocks(s + "< int ? ,", T);
        blocks(s + "< int , a", ", > ?");
        blocks(s + "< < >", ", > ?");
        blocks(s + "< code { }", ", > ?");
        blocks(s + "< some a . a", ", > ?");
        blocks(s + "< some a . a ?", ", >");
        blocks(s + "code", "[ {");
        blocks(s + "code [", "x");
        blocks(s + "code [ a", "x ]");
        blocks(s + "code [ a ]", "{");
        blocks(s + "code {", "r1 }");
        blocks(s + "code { r2", ":");
        blocks(s + "code { r2 :", T);
        blocks(s + "code { r2 : int", ", }");
        blocks(s + "code { r2 : int ,", "r1");
        blocks(s + "code { }", ", }");
        blocks(s + "some", "x");
        blocks(s + "some a", ".");
        blocks(s + "some a .", T);
        blocks(s + "some a . a", ", }");
        blocks(s + "some a . some b . <", T + " >");
    }

    private static void values() {
        String m = "s : { } mov r1 , ";
        blocks("s : { } mov r1 ,", V);
        blocks(m + "1", "; [");
        blocks(m + "-", "1");
        blocks(m + "- 1", "; [");
        blocks(m + "r2", "; [");
        blocks(m + "l", "; [");
        blocks(m + "l [", T);
        blocks(m + "l [ int", "]");
        blocks(m + "l [ < >", "]");
        blocks(m + "l [ code { }", "]");
        blocks(m + "l [ some a . a", "]");
        blocks(m + "l [ int ]", "; [");
        blocks(m + "pack", "[");
        blocks(m + "pack [", T);
        blocks(m + "pack [ int", ",");
        blocks(m + "pack [ int ,", V);
        blocks(m + "pack [ int , 1", "] [");
        blocks(m + "pack [ int , l [ int ]", "] [");
        blocks(m + "pack [ int , 1 ]", "as");
        blocks(m + "pack [ int , 1 ] as", T);
        blocks(m + "pack [ int , 1 ] as int", "; [");
        blocks(m + "pack [ int , 1 ] as some", "x");
        blocks(m + "pack [ int , 1 ] as some a . a", "; [");
        blocks(m + "pack [ int , 1 ] as code { }", "; [");
        blocks(m + "pack [ int , 1 ] as < >", "; [");
        blocks(m + "pack [ int , pack [ int , 1 ] as int", "] [");
        blocks(m + "pack [ int , pack [ int , 1 ] as int ]", "as");
    }

    private static void instructions() {
        String s = "s : { } ";
        for (String ins : new String[] {"mov", "bnz"}) {
            blocks(s + ins, "r1");
            blocks(s + ins + " r1", ",");
            blocks(s + ins + " r1 ,", V);
            blocks(s + ins + " r1 , l", "; [");
            blocks(s + ins + " r1 , l ;", INS);
        }
        for (String ins : new String[] {"add", "sub", "mul"}) {
            blocks(s + ins, "r1");
            blocks(s + ins + " r1", ",");
            blocks(s + ins + " r1 ,", "r1");
            blocks(s + ins + " r1 , r2", ",");
            blocks(s + ins + " r1 , r2 ,", V);
            blocks(s + ins + " r1 , r2 , 1", "; [");
            blocks(s + ins + " r1 , r2 , 1 ;", INS);
        }
        blocks(s + "ld", "r1");
        blocks(s + "ld r1", ",");
        blocks(s + "ld r1 ,", "r1");
        blocks(s + "ld r1 , r2", "(");
        blocks(s + "ld r1 , r2 (", "1");
        blocks(s + "ld r1 , r2 ( 0", ")");
        blocks(s + "ld r1 , r2 ( 0 )", ";");
        blocks(s + "ld r1 , r2 ( 0 ) ;", INS);
        blocks(s + "st", "r1");
        blocks(s + "st r1", "(");
        blocks(s + "st r1 (", "1");
        blocks(s + "st r1 ( 0", ")");
        blocks(s + "st r1 ( 0 )", ",");
        blocks(s + "st r1 ( 0 ) ,", "r1");
        blocks(s + "st r1 ( 0 ) , r2", ";");
        blocks(s + "st r1 ( 0 ) , r2 ;", INS);
        blocks(s + "malloc", "r1");
        blocks(s + "malloc r1", "<");
        blocks(s + "malloc r1 <", T + " >");
        blocks(s + "malloc r1 < >", ";");
        blocks(s + "malloc r1 < int", ", >");
        blocks(s + "malloc r1 < int ,", T);
        blocks(s + "malloc r1 < < int", ", > ?");
        blocks(s + "malloc r1 < > ;", INS);
        blocks(s + "unpack", "x");
        blocks(s + "unpack a", ",");
        blocks(s + "unpack a ,", "r1");
        blocks(s + "unpack a , r1", ",");
        blocks(s + "unpack a , r1 ,", V);
        blocks(s + "unpack a , r1 , r2", "; [");
        blocks(s + "unpack a , r1 , r2 ;", INS);
        blocks(s + "jmp", V);
        blocks(s + "jmp s", "; [");
        blocks(s + "jmp s ;", "x END");
        blocks(s + "jmp s ; l", ":");
        blocks(s + "jmp s ; l : { } mov r1 , 1 ;", INS);
        blocks(s + "halt", ";");
        blocks(s + "halt ;", "x END");
    }
}
