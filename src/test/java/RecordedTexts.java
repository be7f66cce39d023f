/**
 * Texts that were made at random, with what a model in Python answered: fault, place, what is loaded, then
 * kind, or bytes and labels; then for each run its end, value and counts, and of blocks registers and heap.
 * The model works in other ways (trees, sets of free variables, a machine that runs the bytes), but it is of
 * the same hand: it finds slips, not a wrong reading of the document.
 */
public final class RecordedTexts {
    public static void main(String[] args) {
        group0();
        group1();
        group2();
        group3();
        group4();
        group5();
        group6();
        group7();
        group8();
        group9();
        group10();
        group11();
        group12();
        group13();
        group14();
        group15();
        Check.end();
    }

    private static void text(boolean ofBlocks, String text, int[] runs, String due) {
        TypedDescent x = new TypedDescent();
        int fault = ofBlocks ? Check.blocks(x, text) : Check.program(x, text);
        StringBuilder got = new StringBuilder();
        got.append(fault).append(' ').append(x.place()).append(' ').append(x.count(4)).append(' ');
        if (ofBlocks) {
            bytes(x, got);
        } else {
            got.append('"').append(Check.kind(x)).append('"');
        }
        for (int i = 0; i + 1 < runs.length; i += 2) {
            got.append(" | ").append(x.run(runs[i], runs[i + 1])).append(' ').append(x.value());
            for (int what = 0; what < 4; what++) {
                got.append(' ').append(x.count(what));
            }
            if (ofBlocks) {
                state(x, got);
            }
        }
        Check.due(text, got.toString(), due);
    }

    private static void bytes(TypedDescent x, StringBuilder got) {
        got.append('[');
        for (int address = 8192; x.code(address) >= 0; address++) {
            got.append(String.format("%02x", x.code(address)));
        }
        got.append(']').append(x.count(6));
        for (int block = 0; x.label(block) >= 0; block++) {
            got.append(' ').append(x.label(block));
        }
    }

    private static void state(TypedDescent x, StringBuilder got) {
        for (int k = 1; k < 16; k++) {
            got.append(' ').append(x.register(k));
        }
        got.append(" h");
        for (int k = 0; k <= x.count(0) && k < 40; k++) {
            got.append(' ').append(x.heap(k));
        }
    }

    private static void group0() {
        text(false, "let v0 = <<<1>>> in let v1 = fun q : int . <v0> in let v2 = typ q . fun p : q . v1 in v2 1",
            new int[] {6, 20000, 20000, 1, 2000, 3000},
            "4 86 0 \"\" | -1 0 0 0 0 0 | -1 0 0 0 0 0 | -1 0 0 0 0 0");
        text(false, "0 + #1 <2> - if0 ( 3 , 1 , 2 ) * 2",
            new int[] {10, 20000, 20000, 7, 2000, 3000},
            "0 -1 1 \"int\" | 0 -2 1 0 0 0 | 0 -2 1 0 0 0 | 0 -2 1 0 0 0");
        text(false, "# 2 < ( fix zz ( e : < int , int > ) : int . 7 ) < 0 , 7 > , if0 ( 2 , 0 , 0 ) >",
            new int[] {11, 20000, 20000, 15, 2000, 3000},
            "0 -1 1 \"int\" | 0 0 8 1 1 1 | 0 0 8 1 1 1 | 0 0 8 1 1 1");
        text(false, "let x = if0 ( # 1 # 1 < < 0 , 2 > > , ( typ u1 . if0 ( 2 , < fun u1 : int . in1 > , < fun z : int . "
            + "( z ) > ) ) [ int ] , < fun x : int . x > ) in 3",
            new int[] {9, 20000, 20000, 1, 2000, 3000},
            "3 76 0 \"\" | -1 0 0 0 0 0 | -1 0 0 0 0 0 | -1 0 0 0 0 0");
        text(false, "( typ u1 . #1 <2> ) [ a -> int ]",
            new int[] {5, 20000, 20000, 34, 2000, 3000},
            "3 22 0 \"\" | -1 0 0 0 0 0 | -1 0 0 0 0 0 | -1 0 0 0 0 0");
        text(false, "let v0 = <<<1>>> in let v1 = typ q . fun p : q . v0 in let v2 = <v1,v1> in <v2,v2>",
            new int[] {7, 20000, 20000, 6, 2000, 3000},
            "0 -1 1 \"<<all a.a-><<<int>>>,all a.a-><<<int>>>>,<all a.a-><<<int>>>,all a.a-><<<int>>>>>\" | -1 0 0 "
                + "0 0 0 | -1 0 0 0 0 0 | -1 0 0 0 0 0");
        text(false, "( typ u2 . fun d : all t1 . . 3 ) [ int ] ( typ t1 . # 1 < 7 , 2 > )",
            new int[] {2, 20000, 20000, 4, 2000, 3000},
            "1 28 0 \"\" | -1 0 0 0 0 0 | -1 0 0 0 0 0 | -1 0 0 0 0 0");
        text(true, "start: {} mov r1, L1; malloc r7 <some q2 . q2, int>; mov r6, 7; bnz r6, start; malloc r8 <int, int>;"
            + " mov r9, r8; mov r10, 7; mov r11, 7; mov r2, r9; mov r4, r10; mov r7, r11; jmp L1; L1: {r2: <int?, i"
            + "nt?>, r4: int, r7: int} malloc r2 <>; sub r5, r4, r7; malloc r4 <int>; jmp start;",
            new int[] {4, 20000, 2000, 2, 200, 300},
            "0 -1 2 [b891200000a30400000089f881c70800000039f70f87b6000000a31c000000b807000000a318000000a118000000"
                + "85c00f8405000000e9c5ffffff89f881c70800000039f70f8785000000a320000000a120000000a324000000b807000000a3"
                + "28000000b807000000a32c000000a124000000a308000000a128000000a310000000a12c000000a31c000000e90000000089"
                + "f881c70000000039f70f872f000000a308000000a1100000002b051c000000a31400000089f881c70400000039f70f870a00"
                + "0000a310000000e930ffffffcd01]210 8192 8337 | 1 0 2 4 0 1 8337 0 0 0 0 7 65536 0 0 0 0 0 0 0 0 h 0 0 "
                + "0 | 2 0 2 5 0 1 8337 0 0 0 0 7 65536 0 0 0 0 0 0 0 0 h 0 0 0 | 1 0 100 200 0 50 8337 0 0 0 0 7 65928"
                + " 0 0 0 0 0 0 0 0 h 0 0 0 0 0 0 0 0 0 0 0 0 0 0 0 0 0 0 0 0 0 0 0 0 0 0 0 0 0 0 0 0 0 0 0 0 0 0 0 0");
        text(true, "start: {} malloc r2 <>; mov r2, -3; malloc r4 <int>; mov r2, r2; st r4(0), r2; mul r2, r2, r2; jmp s"
            + "tart; L1: {r5: int, r3: int, r2: some q2 . q2} jmp L1;",
            new int[] {8, 20000, 2000, 2, 200, 300},
            "0 -1 2 [89f881c70000000039f70f875a000000a308000000b8fdffffffa30800000089f881c70400000039f70f873b0000"
                + "00a310000000a108000000a308000000a1080000008b0d10000000898100000000a1080000000faf0508000000a308000000"
                + "e99bffffffe9fbffffffcd01]108 8192 8293 | 1 0 1 8 0 1 0 65540 0 65536 0 0 0 0 0 0 0 0 0 0 0 h -3 0 | "
                + "2 0 2 16 0 2 0 -3 0 65540 0 0 0 0 0 0 0 0 0 0 0 h -3 -3 0 | 1 0 29 200 0 28 0 -3 0 65648 0 0 0 0 0 0"
                + " 0 0 0 0 0 h -3 -3 -3 -3 -3 -3 -3 -3 -3 -3 -3 -3 -3 -3 -3 -3 -3 -3 -3 -3 -3 -3 -3 -3 -3 -3 -3 -3 0 0");
        text(true, "start : { } malloc r6 < > ; malloc r5 < > ; jmp L1 ; L1 : { } malloc r2 < int , int > ; mov r7 , 1 ;"
            + " jmp L1 ; L4 : [ q2 q3 ] { r3 : q3 } malloc r8 < < > , int > ; malloc r9 < > ; mov r10 , r9 ; st r8 "
            + "( 0 ) , r10 ; mov r2 , r8 ; jmp L1 ;",
            new int[] {11, 20000, 2000, 12, 200, 300},
            "0 -1 2 [89f881c70000000039f70f8797000000a31800000089f881c70000000039f70f8782000000a314000000e9000000"
                + "0089f881c70800000039f70f8768000000a308000000b801000000a31c000000e9dcffffff89f881c70800000039f70f8744"
                + "000000a32000000089f881c70000000039f70f872f000000a324000000a124000000a328000000a1280000008b0d20000000"
                + "898100000000a120000000a308000000e988ffffffcd01]169 8192 8239 8275 | 1 0 6 11 0 3 0 65552 0 0 65536 6"
                + "5536 1 0 0 0 0 0 0 0 0 h 0 0 0 0 0 0 0 | 2 0 12 21 0 7 0 65576 0 0 65536 65536 1 0 0 0 0 0 0 0 0 h 0"
                + " 0 0 0 0 0 0 0 0 0 0 0 0 | 1 0 132 200 0 66 0 66056 0 0 65536 65536 1 0 0 0 0 0 0 0 0 h 0 0 0 0 0 0 "
                + "0 0 0 0 0 0 0 0 0 0 0 0 0 0 0 0 0 0 0 0 0 0 0 0 0 0 0 0 0 0 0 0 0 0");
    }

    private static void group1() {
        text(false, "let v0 = <1,1> in let v1 = <<<v0>>> in typ a . v1",
            new int[] {7, 20000, 20000, 24, 2000, 3000},
            "0 -1 1 \"all a.<<<<int,int>>>>\" | -1 0 0 0 0 0 | -1 0 0 0 0 0 | -1 0 0 0 0 0");
        text(true, "start: {} malloc r8 <some q4 . q4, int, <>>; mov r9, 1; st r8(1), r9; malloc r9 <>; mov r10, r9; st "
            + "r8(2), r10; mov r5, r8; ld r3, r5(2); mov r2, 5; bnz r2, L3; bnz r2, L2 [some q5 . q5]; jmp L2 [code"
            + " [q6] {r6: q6, r7: int, r3: int}]; L2: [q1] {} mov r7, -3; bnz r7, L3; jmp L3; L3: {} malloc r5 <som"
            + "e q7 . q7, int, <>>; mov r5, -3; malloc r2 <<>>; bnz r5, start; jmp L3;",
            new int[] {4, 20000, 2000, 8, 200, 300},
            "0 -1 2 [89f881c70c00000039f70f8709010000a320000000b801000000a324000000a1240000008b0d2000000089810400"
                + "000089f881c70000000039f70f87d9000000a324000000a124000000a328000000a1280000008b0d20000000898108000000"
                + "a120000000a314000000a1140000008b8008000000a30c000000b805000000a308000000a10800000085c00f8405000000e9"
                + "38000000a10800000085c00f8405000000e905000000e900000000b8fdffffffa31c000000a11c00000085c00f8405000000"
                + "e905000000e90000000089f881c70c00000039f70f873b000000a314000000b8fdffffffa31400000089f881c70400000039"
                + "f70f871c000000a308000000a11400000085c00f8405000000e9ecfeffffe9b5ffffffcd01]283 8192 8365 8398 | 1 0 "
                + "3 4 0 0 0 0 0 0 0 0 0 65536 65548 0 0 0 0 0 0 h 0 1 0 0 | 2 0 7 14 0 2 0 65560 65548 0 -3 0 0 65536 "
                + "65548 65548 0 0 0 0 0 h 0 1 65548 0 0 0 0 0 | 1 0 101 200 0 28 0 65924 65912 0 -3 0 0 65928 65940 65"
                + "912 0 0 0 0 0 h 0 1 65548 0 0 0 0 0 1 65576 0 0 0 0 0 1 65604 0 0 0 0 0 1 65632 0 0 0 0 0 1 65660 0 "
                + "0 0 0 0 1 65688 0 0");
        text(false, "# 1 <let foo = fix e (y : all t1 . int) : int -> int . fun x : int . x in 2147483647>",
            new int[] {9, 20000, 20000, 5, 2000, 3000},
            "0 -1 1 \"int\" | 0 2147483647 3 0 1 0 | 0 2147483647 3 0 1 0 | 0 2147483647 3 0 1 0");
        text(true, "start: {} mov r8, 0; mov r2, r8; jmp L1; L1: {r2: int} malloc r1 <>; bnz r2, start; bnz r2, L1; jmp "
            + "start;",
            new int[] {11, 20000, 2000, 9, 200, 300},
            "0 -1 2 [b800000000a320000000a120000000a308000000e90000000089f881c70000000039f70f872e000000a304000000"
                + "a10800000085c00f8405000000e9c0ffffffa10800000085c00f8405000000e9c7ffffffe9a9ffffffcd01]89 8192 8217 "
                + "| 1 0 0 11 0 3 65536 0 0 0 0 0 0 0 0 0 0 0 0 0 0 h 0 | 1 0 0 2000 0 571 65536 0 0 0 0 0 0 0 0 0 0 0 "
                + "0 0 0 h 0 | 1 0 0 200 0 57 65536 0 0 0 0 0 0 0 0 0 0 0 0 0 0 h 0");
        text(false, "( fix c ( a : int ) : (int -> int) . a ) 0 * 2147483647",
            new int[] {9, 20000, 20000, 34, 2000, 3000},
            "4 37 0 \"\" | -1 0 0 0 0 0 | -1 0 0 0 0 0 | -1 0 0 0 0 0");
        text(false, "let v0 = <<<1>>> in let v1 = <v0> in let v2 = fun q : int . <v1> in let v3 = <<<v2>>> in let v4 = <<"
            + "<v3>>> in v4 1",
            new int[] {10, 20000, 20000, 19, 2000, 3000},
            "4 110 0 \"\" | -1 0 0 0 0 0 | -1 0 0 0 0 0 | -1 0 0 0 0 0");
        text(true, "start : { } malloc r1 < int , code [ q4 q5 ] { } > ; mov r2 , 7 ; jmp L3 [ < > ] [ int ] ; L3 : [ q1"
            + " q2 ] { } malloc r7 < > ; malloc r15 < > ; malloc r1 < int > ; jmp L3 [ < q1 , int , int > ] [ < > ]"
            + " ;",
            new int[] {1, 20000, 2000, 11, 200, 300},
            "0 -1 2 [89f881c70800000039f70f8758000000a304000000b807000000a308000000e90000000089f881c70000000039f7"
                + "0f8734000000a31c00000089f881c70000000039f70f871f000000a33c00000089f881c70400000039f70f870a000000a304"
                + "000000e9bcffffffcd01]106 8192 8228 | 1 0 2 1 0 0 65536 0 0 0 0 0 0 0 0 0 0 0 0 0 0 h 0 0 0 | 2 0 11 "
                + "41 0 10 65576 7 0 0 0 0 65580 0 0 0 0 0 0 0 65580 h 0 0 0 0 0 0 0 0 0 0 0 0 | 1 0 51 200 0 50 65736 "
                + "7 0 0 0 0 65740 0 0 0 0 0 0 0 65736 h 0 0 0 0 0 0 0 0 0 0 0 0 0 0 0 0 0 0 0 0 0 0 0 0 0 0 0 0 0 0 0 "
                + "0 0 0 0 0 0 0 0 0");
        text(false, "# 2 ((fun a : all t2 . int . # 2 <2147483647, <0, typ t1 . 0>>) (typ t2 . # 1 <2147483647, 7, 3>))",
            new int[] {1, 20000, 20000, 37, 2000, 3000},
            "0 -1 1 \"all a.int\" | -1 0 0 0 0 0 | -1 0 0 0 0 0 | -1 0 0 0 0 0");
        text(false, "let v0 = <1,1> in let v1 = typ q . fun p : q . v0 in let v2 = typ q . fun p : q . v1 in let v3 = <<<"
            + "v2>>> in let v4 = fun q : int . <v3,v3,v3,v3> in #1 v4",
            new int[] {3, 20000, 20000, 27, 2000, 3000},
            "4 149 0 \"\" | -1 0 0 0 0 0 | -1 0 0 0 0 0 | -1 0 0 0 0 0");
        text(false, "( fun b : int . fun R2 : int . 2147483647 ) ( ( typ u1 . let foo = 0 in foo ) [ <int> -> int ] + 3 +"
            + " 0 ) 2147483647",
            new int[] {10, 20000, 20000, 11, 2000, 3000},
            "0 -1 1 \"int\" | 0 2147483647 13 3 3 3 | 2 0 11 2 3 2 | 0 2147483647 13 3 3 3");
    }

    private static void group2() {
        text(false, "( typ u1 . ( fun e : u1 . 0 ) ( ( fix b ( f : int ) : u1 . b y ) 0 ) ) [ < int , int , int > ] + ( f"
            + "ix z ( foo : int ) : ( int -> int ) -> int . fix a ( foo : int -> int ) : int . 0 ) ( ( fun b : all "
            + "t2 . int . 3 ) ( typ t2 . 3 ) ) ( fix y ( f : int ) : int . f ) - 2",
            new int[] {1, 20000, 20000, 40, 2000, 3000},
            "3 61 0 \"\" | -1 0 0 0 0 0 | -1 0 0 0 0 0 | -1 0 0 0 0 0");
        text(false, "let v0 = <<<1>>> in let v1 = <<<v0>>> in let v2 = <<<v1>>> in let v3 = typ q . fun p : q . v2 in let"
            + " v4 = <<<v3>>> in v4 1",
            new int[] {2, 20000, 20000, 25, 2000, 3000},
            "4 118 0 \"\" | -1 0 0 0 0 0 | -1 0 0 0 0 0 | -1 0 0 0 0 0");
        text(false, "( let z = typ t2 . 1 in fun z : all t1 . t1 . 2 ) if0 ( 0 , typ t1 . ( fix c ( x : int ) : t1 . c x "
            + ") 0 , typ t1 . ( fix a ( in1 : int ) : t1 . zz in1 ) 0 ) + ( typ u3 . 1 ) [ all t4 . int ]",
            new int[] {3, 20000, 20000, 15, 2000, 3000},
            "3 144 0 \"\" | -1 0 0 0 0 0 | -1 0 0 0 0 0 | -1 0 0 0 0 0");
        text(false, "if0 ((let a = 0 in (fun e : all t1 . int . fix f (a : int) : int -> int . fun b : int . a) ((fun c :"
            + " int -> int . typ t1 . a) (fun x : int . x)) 2147483647) 2147483647, 7, 2147483647)",
            new int[] {11, 20000, 20000, 36, 2000, 3000},
            "0 -1 1 \"int\" | 0 2147483647 24 4 6 4 | 0 2147483647 24 4 6 4 | 0 2147483647 24 4 6 4");
        text(false, "( fun b : < int , int , int > . if0 ( 2147483647 , 3 , 0 ) ) int , int , < 2147483647 , 3 * 1 , ( fu"
            + "n x1 : < int , int , int > . 2 ) < 2 , 2147483647 , 2 > >",
            new int[] {12, 20000, 20000, 6, 2000, 3000},
            "1 61 0 \"\" | -1 0 0 0 0 0 | -1 0 0 0 0 0 | -1 0 0 0 0 0");
        text(false, "# 1 ( ( typ u1 . # 1 < ( fun foo : all t2 . int . < 3 > ) ( ( fix z ( d : (all a . a) ) : all t2 . i"
            + "nt . typ t2 . d ) 1 ) > ) [ < int > ] )",
            new int[] {2, 20000, 20000, 36, 2000, 3000},
            "4 105 0 \"\" | -1 0 0 0 0 0 | -1 0 0 0 0 0 | -1 0 0 0 0 0");
        text(true, "start : { } malloc r7 < code { } , < int , int > , code [ q2 q3 ] { } > ; jmp start ; L1 : { } mallo"
            + "c r7 < code [ start q5 ] { r7 : int , r1 : int , r4 : q5 } , int > ; mov r4 , 3 ; jmp L1 ;",
            new int[] {6, 20000, 2000, 29, 200, 300},
            "0 -1 2 [89f881c70c00000039f70f872e000000a31c000000e9e6ffffff89f881c70800000039f70f8714000000a31c0000"
                + "00b803000000a310000000e9dcffffffcd01]64 8192 8218 | 1 0 9 6 0 3 0 0 0 0 0 0 65560 0 0 0 0 0 0 0 0 h "
                + "0 0 0 0 0 0 0 0 0 0 | 2 0 27 18 0 9 0 0 0 0 0 0 65632 0 0 0 0 0 0 0 0 h 0 0 0 0 0 0 0 0 0 0 0 0 0 0 "
                + "0 0 0 0 0 0 0 0 0 0 0 0 0 0 | 1 0 300 200 0 100 0 0 0 0 0 0 66724 0 0 0 0 0 0 0 0 h 0 0 0 0 0 0 0 0 "
                + "0 0 0 0 0 0 0 0 0 0 0 0 0 0 0 0 0 0 0 0 0 0 0 0 0 0 0 0 0 0 0 0");
        text(true, "start : { } mov r1 , 7 ; add r4 , r1 , r1 ; jmp L3 [ int ] ; L1 : { } malloc r3 < code { r2 : int , "
            + "r6 : int } , < int > > ; jmp start ; L3 : [ q2 ] { } malloc pack [int, 3] as some a . int < code [ q"
            + "4 ] { } , int > ; jmp L3 [ < q2 ? , q2 > ] ;",
            new int[] {12, 20000, 2000, 14, 200, 300},
            "1 160 0 []0 | -1 0 0 0 0 0 0 0 0 0 0 0 0 0 0 0 0 0 0 0 0 h 0 | -1 0 0 0 0 0 0 0 0 0 0 0 0 0 0 0 0 0 "
                + "0 0 0 h 0 | -1 0 0 0 0 0 0 0 0 0 0 0 0 0 0 0 0 0 0 0 0 h 0");
        text(true, "start: {} jmp start; L1: {} malloc r4 <<int, int?, int>>; malloc r8 <>; mov r1, pack [int, r8] as so"
            + "me q7 . <>; mov r5, 0; malloc r8 <<int>, int, code [q6] {}>; mov r9, r5; st r8(1), r9; mov r9, r8; m"
            + "ov r5, r9; jmp L5; L2: {r6: int, r3: int, r1: code [q3 q4] {}} malloc r2 <>; sub r6, r3, r3; malloc "
            + "r7 <<int?>, code [q8 q9] {}>; jmp L1; L5: {r5: <<int>?, int, code [q6] {}?>} jmp L5;",
            new int[] {10, 20000, 2000, 21, 200, 300},
            "0 -1 2 [e9fbffffff89f881c70400000039f70f87bb000000a31000000089f881c70000000039f70f87a6000000a3200000"
                + "00a120000000a304000000b800000000a31400000089f881c70c00000039f70f877d000000a320000000a114000000a32400"
                + "0000a1240000008b0d20000000898104000000a120000000a324000000a124000000a314000000e93f00000089f881c70000"
                + "000039f70f8734000000a308000000a10c0000002b050c000000a31800000089f881c70800000039f70f870f000000a31c00"
                + "0000e93affffffe9fbffffffcd01]210 8192 8197 8332 8395 | 1 0 0 10 0 10 0 0 0 0 0 0 0 0 0 0 0 0 0 0 0 h"
                + " 0 | 1 0 0 2000 0 2000 0 0 0 0 0 0 0 0 0 0 0 0 0 0 0 h 0 | 1 0 0 200 0 200 0 0 0 0 0 0 0 0 0 0 0 0 0"
                + " 0 0 h 0");
        text(false, "let z = if0 ( ( fix c ( d : int ) : int . ( d ) ) 3 , fun e : int . e , fun b : int . b ) ( ( typ u1"
            + " . big ) [ int ] ) in # (fun q : int . q) < ( fun x : int . z ) z >",
            new int[] {9, 20000, 20000, 21, 2000, 3000},
            "1 124 0 \"\" | -1 0 0 0 0 0 | -1 0 0 0 0 0 | -1 0 0 0 0 0");
    }

    private static void group3() {
        text(false, "let c = # 2 ( ( typ u1 . < # 2 < 0 , 0 , ( fix e ( c : int ) : u1 . e c ) 0 > * if0 ( 0 , 2147483647"
            + " , 0 ) , 3 , ( fun z : u1 . 2147483647 ) ( ( fix b ( y : all t2 . int ) : zz . ( fix b ( a : int ) :"
            + " u1 . b a ) 0 ) ( typ t2 . 0 ) ) > ) [ int ] ) in c",
            new int[] {5, 20000, 20000, 18, 2000, 3000},
            "3 174 0 \"\" | -1 0 0 0 0 0 | -1 0 0 0 0 0 | -1 0 0 0 0 0");
        text(false, "(let in1 = (typ u2 . typ t1 . fun R2 : int . (fix a (y : int) : t1 . a y) 0) [<int, int, int>] in (t"
            + "yp u3 . fun c : int . c) [int]) 1",
            new int[] {12, 20000, 20000, 39, 2000, 3000},
            "0 -1 1 \"int\" | 0 1 14 3 4 3 | 0 1 14 3 4 3 | 0 1 14 3 4 3");
        text(true, "start: {} malloc r8 <int>; mov r9, 0; st r8(0), r9; mov r2, pack [<int>, pack [int, r8] as some q2 ."
            + " <int>] as some q1 . some q2 . q1; mov r7, 7; mov r4, r7; add r7, r7, r4; jmp start;",
            new int[] {5, 20000, 2000, 12, 200, 300},
            "0 -1 2 [89f881c70400000039f70f8753000000a320000000b800000000a324000000a1240000008b0d2000000089810000"
                + "0000a120000000a308000000b807000000a31c000000a11c000000a310000000a11c000000030510000000a31c000000e99d"
                + "ffffffcd01]101 8192 | 1 0 1 5 0 0 0 65536 0 0 0 0 7 65536 0 0 0 0 0 0 0 h 0 0 | 2 0 12 96 0 12 0 655"
                + "80 0 7 0 0 14 65580 0 0 0 0 0 0 0 h 0 0 0 0 0 0 0 0 0 0 0 0 0 | 1 0 25 200 0 25 0 65632 0 7 0 0 14 6"
                + "5632 0 0 0 0 0 0 0 h 0 0 0 0 0 0 0 0 0 0 0 0 0 0 0 0 0 0 0 0 0 0 0 0 0 0");
        text(true, "start: {} malloc r6 <some q3 . q3>; jmp start; L1: {r6: <some q2 . q2>, r7: int} jmp start;",
            new int[] {1, 20000, 2000, 9, 200, 300},
            "0 -1 2 [89f881c70400000039f70f870f000000a318000000e9e6ffffffe9e1ffffffcd01]33 8192 8218 | 1 0 1 1 0 "
                + "0 0 0 0 0 0 65536 0 0 0 0 0 0 0 0 0 h 0 0 | 2 0 9 18 0 9 0 0 0 0 0 65568 0 0 0 0 0 0 0 0 0 h 0 0 0 0"
                + " 0 0 0 0 0 0 | 1 0 100 200 0 100 0 0 0 0 0 65932 0 0 0 0 0 0 0 0 0 h 0 0 0 0 0 0 0 0 0 0 0 0 0 0 0 0"
                + " 0 0 0 0 0 0 0 0 0 0 0 0 0 0 0 0 0 0 0 0 0 0 0 0");
        text(true, "start : { } malloc r1 < < int > , code { r6 : a , r1 : int } , int > ; jmp start ; L2 : [ q1 ] { r2 "
            + ": q1 , r5 : < code [ q4 ] { r5 : int , r1 : code {} } ? , code [ q5 ] { } , < q1 , q1 > > , r3 : som"
            + "e q3 . code { pack [int, 3] as some a . int : int } } malloc r2 < < > , q1 > ; unpack k7 , r3 , r3 ;"
            + " ld r3 , r5 ( 1 ) ; jmp L6 ; L6 : { } mov r2 , 7 ; jmp L6 ;",
            new int[] {2, 20000, 2000, 11, 200, 300},
            "1 214 0 []0 | -1 0 0 0 0 0 0 0 0 0 0 0 0 0 0 0 0 0 0 0 0 h 0 | -1 0 0 0 0 0 0 0 0 0 0 0 0 0 0 0 0 0 "
                + "0 0 0 h 0 | -1 0 0 0 0 0 0 0 0 0 0 0 0 0 0 0 0 0 0 0 0 h 0");
        text(true, "@ : { } malloc r3 < some q1 . q1 , int > ; malloc r4 < < int > > ; mov r4 , L3 ; mov r6 , pack [ int"
            + " , 1 r0 ] as some q4 . q4 ; mov r8 , L5 ; mov r6 , r8 ; jmp L3 [ < > ] ; L3 : [ q2 ] { r6 : code { r"
            + "4 : int , r2 : q2 } } malloc r6 < q2 , < > , < > > ; malloc r6 < > ; malloc < some q6 . int , int , "
            + "< q2 , q2 > > ; jmp start ; L5 : { r4 : int , r2 : < > } jmp start ;",
            new int[] {2, 20000, 2000, 21, 200, 300},
            "1 0 0 []0 | -1 0 0 0 0 0 0 0 0 0 0 0 0 0 0 0 0 0 0 0 0 h 0 | -1 0 0 0 0 0 0 0 0 0 0 0 0 0 0 0 0 0 0 "
                + "0 0 h 0 | -1 0 0 0 0 0 0 0 0 0 0 0 0 0 0 0 0 0 0 0 0 h 0");
        text(false, "( fun e : int . ( fun c : all t1 . t1 . e ) ( typ t1 . ( fix d ( foo : int ) : e . d foo ) 0 ) ) # 2"
            + " < 0 , 1 , 0 >",
            new int[] {2, 20000, 20000, 28, 2000, 3000},
            "3 79 0 \"\" | -1 0 0 0 0 0 | -1 0 0 0 0 0 | -1 0 0 0 0 0");
        text(false, "( fix x ( x : int -> int ) : int . 0 ) ( fun f : int . # 1 < fix a ( d : zz ) : int . f , f , ( f ) "
            + "> ( let z = f in f ) )",
            new int[] {2, 20000, 20000, 36, 2000, 3000},
            "3 73 0 \"\" | -1 0 0 0 0 0 | -1 0 0 0 0 0 | -1 0 0 0 0 0");
        text(true, "start: {} mov r8, -3; mov r1, r8; jmp L2; L1: {} malloc r1 <<int, int, int>, <int, int>, int>; mallo"
            + "c r6 <<int?, int>, <int, int, int>, <int?, int, int>>; mov r8, 7; mov r1, r8; jmp L2; L2: {r1: int} "
            + "jmp L2;",
            new int[] {7, 20000, 2000, 1, 200, 300},
            "0 -1 2 [b8fdffffffa320000000a120000000a304000000e94300000089f881c70c00000039f70f8738000000a304000000"
                + "89f881c70c00000039f70f8723000000a318000000b807000000a320000000a120000000a304000000e900000000e9fbffff"
                + "ffcd01]99 8192 8217 8284 | 1 0 0 7 0 5 -3 0 0 0 0 0 0 -3 0 0 0 0 0 0 0 h 0 | 1 0 0 2000 0 1998 -3 0 "
                + "0 0 0 0 0 -3 0 0 0 0 0 0 0 h 0 | 1 0 0 200 0 198 -3 0 0 0 0 0 0 -3 0 0 0 0 0 0 0 h 0");
        text(false, "# 1 if0 (0 - 2 + 2 * 7, <if0 (1, fix a (foo : int) : int . foo, fun x : int . x)>, let in1 = fix x ("
            + "f : int) : <int, int> . <f, f> in (fun c : int . <fun foo : int . foo>) 1) ((fun c : all t1 . int . "
            + "(fun a : all t2 . int . 2) (let in1 = 0 in typ t2 . (in1))) (typ t1 . 0))",
            new int[] {6, 20000, 20000, 39, 2000, 3000},
            "0 -1 1 \"int\" | 0 2 23 4 7 3 | 0 2 23 4 7 3 | 0 2 23 4 7 3");
    }

    private static void group4() {
        text(false, "( typ u2 . ( fun z : int -> int . fix x ( e : all t1 . int ) : int . 7 ) ( fun y : int . y ) ) [ int"
            + " ] # 1 ( ( fun a : int -> int . < typ t1 . 2 > ) ( fun b : int . b ) )",
            new int[] {3, 20000, 20000, 22, 2000, 3000},
            "0 -1 1 \"int\" | 1 0 22 3 7 2 | 0 7 22 4 7 3 | 0 7 22 4 7 3");
        text(false, "let v0 = fun q : int . <1,1> in let v1 = fun q : int . <v0,v0> in let v2 = <v1,v1,v1> in let v3 = ty"
            + "p q . fun p : q . v2 in let v4 = fun q : int . <v3,v3,v3> in #1 v4",
            new int[] {3, 20000, 20000, 20, 2000, 3000},
            "5 147 0 \"\" | -1 0 0 0 0 0 | -1 0 0 0 0 0 | -1 0 0 0 0 0");
        text(false, "# <<1,2>,<3,4>> < if0 ( 7 , fix e ( x : int ) : int . x , fun a : int . a ) , let b = 3 in b > ( ( f"
            + "un b : int . ( typ u1 . b ) [ int -> int ] ) 0 )",
            new int[] {6, 20000, 20000, 2, 2000, 3000},
            "1 2 0 \"\" | -1 0 0 0 0 0 | -1 0 0 0 0 0 | -1 0 0 0 0 0");
        text(false, "let v0 = fun q : int . <1,1> in let v1 = typ q . fun p : q . v0 in let v2 = fun q : int . <v1> in le"
            + "t v3 = typ q . fun p : q . v2 in let v4 = <v3,v3,v3,v3> in v4 1",
            new int[] {8, 20000, 20000, 2, 2000, 3000},
            "4 159 0 \"\" | -1 0 0 0 0 0 | -1 0 0 0 0 0 | -1 0 0 0 0 0");
        text(true, "start : { } malloc r8 < < int , int ? , int > , int , int > ; malloc r9 < int , int , int > ; mov r1"
            + "0 , 5 ; st r9 ( 0 ) , r10 ; mov r10 , - 3 ; st r9 ( 2 ) , r10 ; mov r10 , r9 st r8 ( 0 ) , r10 ; mov"
            + " r10 , 1 ; st r8 ( 1 ) , r10 ; mov r10 , 2147483647 ; st r8 ( 2 ) , r10 ; mov r4 , r8 ; ld r7 , r4 ("
            + " 0 ) ; st r4 ( 0 ) , r7 ; jmp pack start ;",
            new int[] {5, 20000, 2000, 23, 200, 300},
            "1 177 0 []0 | -1 0 0 0 0 0 0 0 0 0 0 0 0 0 0 0 0 0 0 0 0 h 0 | -1 0 0 0 0 0 0 0 0 0 0 0 0 0 0 0 0 0 "
                + "0 0 0 h 0 | -1 0 0 0 0 0 0 0 0 0 0 0 0 0 0 0 0 0 0 0 0 h 0");
        text(false, "( fun R2 : int . ( typ u1 . R2 ) [ int -> int ] ) ( ( let x = ( fix d ( d : < > ) : int . 0 ) < > in"
            + " ( fun a : < int , int , int > . fix e ( c : all t2 . t2 ) : int . x ) < x , x , x > ) ( typ t2 . ( "
            + "fix a ( z : int ) : t2 . a ? z ) 0 ) )",
            new int[] {10, 20000, 20000, 38, 2000, 3000},
            "1 227 0 \"\" | -1 0 0 0 0 0 | -1 0 0 0 0 0 | -1 0 0 0 0 0");
        text(false, "let c = 2 in # <> < if0 ( c , if0 ( c - c , 1 , ( fun y : int . c ) c ) , ( fun b : int -> int . c )"
            + " ( fix f ( z : int ) : int . c ) ) , ( c ) >",
            new int[] {6, 20000, 20000, 19, 2000, 3000},
            "1 15 0 \"\" | -1 0 0 0 0 0 | -1 0 0 0 0 0 | -1 0 0 0 0 0");
        text(false, "# 1 <let b = (typ u2 . (typ u3 . fun e : all t1 . t1 . 0) [int]) [int] (let c = <<0>, 2147483647> in"
            + " (fun f : int -> int . typ t1 . (fix c (e : int) : t1 . c e) 0) (fix x (z : int) : int . z)) in if0 "
            + "(if0 (b, b, b) - 0, 1, if0 ((typ u4 . b) [int -> int], let c = b in b, if0 (b, b, b)))>",
            new int[] {6, 20000, 20000, 0, 2000, 3000},
            "0 -1 1 \"int\" | 0 1 23 4 6 3 | 2 0 0 0 1 0 | 0 1 23 4 6 3");
        text(true, "start : { } malloc r1 < > ; malloc r5 < > ; malloc r5 < some q3 . q3 , int , int > ; mov r3 , 5 ; bn"
            + "z r3 , start ; jmp start ; L2 : [ q1 ] { r2 : int , r6 : < > } mul r3 , r2 , 3 ; malloc r3 < < int ?"
            + " > , code [ q4 ] { r7 : q1 , r1 : int } , int > ; mul r2 , r2 , r15 ; jmp L2 [ < < int ? > ? , code "
            + "[ q4 ] { r7 : q1 , r1 : int } ? , int ? > ] ;",
            new int[] {2, 20000, 2000, 21, 200, 300},
            "4 264 0 []0 | -1 0 0 0 0 0 0 0 0 0 0 0 0 0 0 0 0 0 0 0 0 h 0 | -1 0 0 0 0 0 0 0 0 0 0 0 0 0 0 0 0 0 "
                + "0 0 0 h 0 | -1 0 0 0 0 0 0 0 0 0 0 0 0 0 0 0 0 0 0 0 0 h 0");
        text(true, "start : { } malloc r5 < < int ? , int > , code [ q2 q3 ] { r3 : int , r2 : q3 } > ; malloc r2 < int "
            + ", int > ; mov r8 , 7 ; mov r9 , r8 ; mov r4 , r8 ; mov r7 , r9 ; jmp L1 ; L1 : { r7 : int , r4 : int"
            + " } jmp : ;",
            new int[] {5, 20000, 2000, 28, 200, 300},
            "1 207 0 []0 | -1 0 0 0 0 0 0 0 0 0 0 0 0 0 0 0 0 0 0 0 0 h 0 | -1 0 0 0 0 0 0 0 0 0 0 0 0 0 0 0 0 0 "
                + "0 0 0 h 0 | -1 0 0 0 0 0 0 0 0 0 0 0 0 0 0 0 0 0 0 0 0 h 0");
    }

    private static void group5() {
        text(true, "start : { } malloc r1 < int ? , code { r3 : int , r6 : int , r5 : int } > ; malloc r8 < > ; mov r2 ,"
            + " r8 ; jmp start ;",
            new int[] {4, 20000, 2000, 28, 200, 300},
            "1 28 0 []0 | -1 0 0 0 0 0 0 0 0 0 0 0 0 0 0 0 0 0 0 0 0 h 0 | -1 0 0 0 0 0 0 0 0 0 0 0 0 0 0 0 0 0 0"
                + " 0 0 h 0 | -1 0 0 0 0 0 0 0 0 0 0 0 0 0 0 0 0 0 0 0 0 h 0");
        text(true, "start: {} malloc r3 <code [q4] {}>; malloc r2 <some q5 . int, int, <int?>>; jmp L1; L1: {} malloc r5"
            + " <<int, int>, <int?, int>>; jmp L3 [int]; L3: [q2] {} malloc r7 <some q6 . int, some q7 . q7, <int>>"
            + "; malloc r1 <code {r7: q2, r4: q2}, int, some q8 . int>; jmp L1;",
            new int[] {0, 20000, 2000, 6, 200, 300},
            "0 -1 2 [89f881c70400000039f70f8768000000a30c00000089f881c70c00000039f70f8753000000a308000000e9000000"
                + "0089f881c70800000039f70f8739000000a314000000e90000000089f881c70c00000039f70f871f000000a31c00000089f8"
                + "81c70c00000039f70f870a000000a304000000e9b7ffffffcd01]122 8192 8239 8265 | 1 0 0 0 0 0 0 0 0 0 0 0 0 "
                + "0 0 0 0 0 0 0 0 h 0 | 2 0 6 5 0 2 0 65540 65536 0 65552 0 0 0 0 0 0 0 0 0 0 h 0 0 0 0 0 0 0 | 2 0 30"
                + "0 188 0 75 66724 65540 65536 0 66704 0 66712 0 0 0 0 0 0 0 0 h 0 0 0 0 0 0 0 0 0 0 0 0 0 0 0 0 0 0 0"
                + " 0 0 0 0 0 0 0 0 0 0 0 0 0 0 0 0 0 0 0 0 0");
        text(true, "start : { } jmp start ; L2 : [ q1 ] { r2 : q1 , r1 : code [ q3 q4 ] { r6 : int , r5 : int , r1 : < >"
            + " } , r7 : some a . a } malloc r8 < int > ; mov r9 , r7 ; st r8 ( 0 ) , r9 ; mov r9 , r8 ; mov r3 , r"
            + "9 ; jmp L8 [ int ] ; zz : { r7 : int , r4 : < int , some q6 . int > } malloc r8 < int > ; mov r9 , 1"
            + " ; st r8 ( 0 ) , r8 ; mov r9 , r8 ; mov r3 , r9 ; jmp L8 [ int ] ; L8 : [ q7 ] { r7 : q7 , r3 : < in"
            + "t > } jmp start ;",
            new int[] {4, 20000, 2000, 4, 200, 300},
            "5 171 0 []0 | -1 0 0 0 0 0 0 0 0 0 0 0 0 0 0 0 0 0 0 0 0 h 0 | -1 0 0 0 0 0 0 0 0 0 0 0 0 0 0 0 0 0 "
                + "0 0 0 h 0 | -1 0 0 0 0 0 0 0 0 0 0 0 0 0 0 0 0 0 0 0 0 h 0");
        text(true, "start : { } malloc r7 < < int ? , int > , code [ q2 q3 ] { r4 : int , r5 : int , r6 : int } > ; mov "
            + "r6 , 0 ; bnz r6 , L1 ; mov r7 , r6 ; malloc r7 < int , int > ; malloc r8 < some q4 . int > ; mov r9 "
            + ", pack [ int , r6 ] as some q4 . int ; st r5 ( 0 ) , r9 ; mov r3 , r8 ; jmp L1 ; L1 : { } jmp L1 ;",
            new int[] {7, 20000, 2000, 13, 200, 300},
            "4 242 0 []0 | -1 0 0 0 0 0 0 0 0 0 0 0 0 0 0 0 0 0 0 0 0 h 0 | -1 0 0 0 0 0 0 0 0 0 0 0 0 0 0 0 0 0 "
                + "0 0 0 h 0 | -1 0 0 0 0 0 0 0 0 0 0 0 0 0 0 0 0 0 0 0 0 h 0");
        text(false, "let d = let b = < ( typ u3 . typ t1 . 0 ) [ int -> int ] , 1 , ( fun x : int -> int . typ t2 . 21474"
            + "83647 ) ( fun R2 : int . R2 ) int in ( fun d : int . ( d ) ) ( 2 + 2 ) in ( typ u4 . ( fix e ( a : i"
            + "nt ) : int . ( a ) ) d ) [ int ] * d",
            new int[] {3, 20000, 20000, 2, 2000, 3000},
            "1 130 0 \"\" | -1 0 0 0 0 0 | -1 0 0 0 0 0 | -1 0 0 0 0 0");
        text(true, "start : { } malloc r3 < > ; malloc r3 < > ; malloc start < > ; jmp start ; L1 : { r1 : code { } } jm"
            + "p start ;",
            new int[] {8, 20000, 2000, 15, 200, 300},
            "1 51 0 []0 | -1 0 0 0 0 0 0 0 0 0 0 0 0 0 0 0 0 0 0 0 0 h 0 | -1 0 0 0 0 0 0 0 0 0 0 0 0 0 0 0 0 0 0"
                + " 0 0 h 0 | -1 0 0 0 0 0 0 0 0 0 0 0 0 0 0 0 0 0 0 0 0 h 0");
        text(true, "start : { } malloc r3 < code [ start ] { } , < > ? > ; jmp start ; L2 : [ q1 ] { r1 : < some q3 . q3"
            + " > , r5 : < some q3 . q4 ? , int ? > , r2 : < some q5 . int , int ? > } ld r4 , r1 ( 0 ) ; jmp start"
            + " ;",
            new int[] {11, 20000, 2000, 19, 200, 300},
            "1 49 0 []0 | -1 0 0 0 0 0 0 0 0 0 0 0 0 0 0 0 0 0 0 0 0 h 0 | -1 0 0 0 0 0 0 0 0 0 0 0 0 0 0 0 0 0 0"
                + " 0 0 h 0 | -1 0 0 0 0 0 0 0 0 0 0 0 0 0 0 0 0 0 0 0 0 h 0");
        text(true, "start : { } mov r6 , 2147483647 ; malloc r3 < > ; sub r5 , r6 , 1 ; malloc r5 < some q4 . q4 , some "
            + "q5 . q5 , int > ; jmp start ; L2 : [ q1 ] { } jmp L2 [ int ] ; L3 : { } malloc r5 < < code [b] {r1: "
            + "b, r1: int} , int , < > ? > , code [ q6 q7 ] { r2 : int , r3 : q7 , r1 : int } , < int , int , int >"
            + " > ; jmp L3 ;",
            new int[] {5, 20000, 2000, 1, 200, 300},
            "3 203 0 []0 | -1 0 0 0 0 0 0 0 0 0 0 0 0 0 0 0 0 0 0 0 0 h 0 | -1 0 0 0 0 0 0 0 0 0 0 0 0 0 0 0 0 0 "
                + "0 0 0 h 0 | -1 0 0 0 0 0 0 0 0 0 0 0 0 0 0 0 0 0 0 0 0 h 0");
        text(true, "start : { } jmp start ; L2 : [ q1 ] { r4 : < > ? , r1 : some q3 . int } malloc r4 < < > , < int , q1"
            + " > > ; jmp start ;",
            new int[] {7, 20000, 2000, 22, 200, 300},
            "1 47 0 []0 | -1 0 0 0 0 0 0 0 0 0 0 0 0 0 0 0 0 0 0 0 0 h 0 | -1 0 0 0 0 0 0 0 0 0 0 0 0 0 0 0 0 0 0"
                + " 0 0 h 0 | -1 0 0 0 0 0 0 0 0 0 0 0 0 0 0 0 0 0 0 0 0 h 0");
        text(true, "start : { } malloc r4 < > ; malloc r3 < int , int , code [a a] {} > ; jmp start ; L2 : [ q1 ] { r4 :"
            + " int , r6 : int } malloc r5 < int , < int > , < q1 > > ; add r5 , r4 , 3 ; bnz r4 , L2 [ int ] ; mal"
            + "loc r3 < > ; jmp L2 [ < > ] ; L3 : { r7 : < > } mov r1 , r7 ; malloc r1 < > ; mov r5 , r1 ; malloc r"
            + "7 < > ; malloc r6 < < int > , int > ; jmp start ;",
            new int[] {4, 20000, 2000, 2, 200, 300},
            "3 60 0 []0 | -1 0 0 0 0 0 0 0 0 0 0 0 0 0 0 0 0 0 0 0 0 h 0 | -1 0 0 0 0 0 0 0 0 0 0 0 0 0 0 0 0 0 0"
                + " 0 0 h 0 | -1 0 0 0 0 0 0 0 0 0 0 0 0 0 0 0 0 0 0 0 0 h 0");
    }

    private static void group6() {
        text(false, "# 2 <3, if0 ((fun y : <int> . 7) <0>, 0, 2), (let e = 0 in fix e (x : int) : int . (x)) ((fun y : in"
            + "t . y) 1)>",
            new int[] {1, 20000, 20000, 2, 2000, 3000},
            "0 -1 1 \"int\" | 1 0 13 1 3 1 | 2 0 2 0 1 0 | 0 2 19 3 3 3");
        text(true, "start : { } malloc r1 < code [a a] {} > ; mov r3 , 7 ; bnz r3 , start ; jmp start ;",
            new int[] {8, 20000, 2000, 16, 200, 300},
            "3 32 0 []0 | -1 0 0 0 0 0 0 0 0 0 0 0 0 0 0 0 0 0 0 0 0 h 0 | -1 0 0 0 0 0 0 0 0 0 0 0 0 0 0 0 0 0 0"
                + " 0 0 h 0 | -1 0 0 0 0 0 0 0 0 0 0 0 0 0 0 0 0 0 0 0 0 h 0");
        text(true, "start : { } malloc r4 < < int , int ? > , int , < int , int ? , a > > ; jmp start ; L1 : { } jmp sta"
            + "rt ;",
            new int[] {6, 20000, 2000, 14, 200, 300},
            "4 64 0 []0 | -1 0 0 0 0 0 0 0 0 0 0 0 0 0 0 0 0 0 0 0 0 h 0 | -1 0 0 0 0 0 0 0 0 0 0 0 0 0 0 0 0 0 0"
                + " 0 0 h 0 | -1 0 0 0 0 0 0 0 0 0 0 0 0 0 0 0 0 0 0 0 0 h 0");
        text(false, "(fix b (c : int -> int) : int . (typ u1 . (typ u2 . 2147483647) [int]) [int -> int]) (fun f : int . "
            + "(fix a (e : int) : int . f) 7) + 3",
            new int[] {3, 20000, 20000, 2, 2000, 3000},
            "0 -1 1 \"int\" | 0 -2147483646 10 3 4 1 | 2 0 2 0 2 0 | 0 -2147483646 10 3 4 1");
        text(true, "start : { } malloc r8 < int > ; mov r8 , 7 ; st r8 ( 0 ) , r9 ; mov r3 , r8 ; jmp start ; L1 : { r2 "
            + ": code [ q2 q3 ] { r3 : q2 } , r6 : int , r5 : < code [ q4 ] { r1 : int } , < > ? , code [ q5 ] { r5"
            + " : int } > } mov r7 , 0 ; bnz r7 , start ; bnz r7 , start ; jmp start ;",
            new int[] {11, 20000, 2000, 8, 200, 300},
            "5 48 0 []0 | -1 0 0 0 0 0 0 0 0 0 0 0 0 0 0 0 0 0 0 0 0 h 0 | -1 0 0 0 0 0 0 0 0 0 0 0 0 0 0 0 0 0 0"
                + " 0 0 h 0 | -1 0 0 0 0 0 0 0 0 0 0 0 0 0 0 0 0 0 0 0 0 h 0");
        text(true, "start: {} mov r5, 7; bnz r5, start; jmp start;",
            new int[] {8, 20000, 2000, 11, 200, 300},
            "0 -1 2 [b807000000a314000000a11400000085c00f8405000000e9e4ffffffe9dfffffffcd01]35 8192 | 1 0 0 8 0 4"
                + " 0 0 0 0 7 0 0 0 0 0 0 0 0 0 0 h 0 | 1 0 0 2000 0 1000 0 0 0 0 7 0 0 0 0 0 0 0 0 0 0 h 0 | 1 0 0 200"
                + " 0 100 0 0 0 0 7 0 0 0 0 0 0 0 0 0 0 h 0");
        text(false, "2 - (fun in1 : <int, int> . fix c (f : all t1 . int) : int . 7) <7, 0> ((fix foo (b : int) : all t1 "
            + ". int . typ t1 . b) 0) * 0",
            new int[] {2, 20000, 20000, 4, 2000, 3000},
            "0 -1 1 \"int\" | 1 0 18 2 4 2 | 2 0 4 0 1 0 | 0 2 18 3 4 3");
        text(true, "start : { } malloc r8 < > ; mov r9 , r8 ; mov r10 , 5 ; mov r11 , 0 ; mov r7 , r9 ; mov r1 , r10 ; m"
            + "ov r3 , r11 ; jmp L2 [ int ] ; L2 : [ q1 ] { r7 : < > , r1 : q1 , r3 : q1 } malloc r4 < > ; jmp star"
            + "t ; L4 : [ zz ] { r2 : q3 } jmp start ;",
            new int[] {11, 20000, 2000, 11, 200, 300},
            "4 223 0 []0 | -1 0 0 0 0 0 0 0 0 0 0 0 0 0 0 0 0 0 0 0 0 h 0 | -1 0 0 0 0 0 0 0 0 0 0 0 0 0 0 0 0 0 "
                + "0 0 0 h 0 | -1 0 0 0 0 0 0 0 0 0 0 0 0 0 0 0 0 0 0 0 0 h 0");
        text(false, "if0 ( let x = fix in1 ( f : int ) : int -> int . fun x : int . x in 3 , fix d ( a : all t1 . int ) :"
            + " int . 2147483647 , fun e : all t1 . int . 2 ) ( ( typ u2 . ( fun y : int . typ t1 . y ) 2 ) [ all t"
            + "3 . int ] )",
            new int[] {3, 20000, 20000, 37, 2000, 3000},
            "0 -1 1 \"int\" | 0 2 16 3 5 2 | 0 2 16 3 5 2 | 0 2 16 3 5 2");
        text(true, "start : { } malloc r7 < int , < int > , code { r6 : int , r1 : int , r3 : int } > ; jmp start ; L2 :"
            + " [ q1 ] { } jmp L6 ; L3 : { r3 : < > , r6 : some q4 . < code [a a] {} > , r5 : some q5 . < q5 , int "
            + "> } unpack k7 , r4 , r5 ; malloc r6 < int , k7 , some q8 . int > ; jmp L2 [ some q5 . < q5 , int > ]"
            + " ; L6 : { } malloc r5 < < > > ; jmp start ;",
            new int[] {7, 20000, 2000, 21, 200, 300},
            "3 164 0 []0 | -1 0 0 0 0 0 0 0 0 0 0 0 0 0 0 0 0 0 0 0 0 h 0 | -1 0 0 0 0 0 0 0 0 0 0 0 0 0 0 0 0 0 "
                + "0 0 0 h 0 | -1 0 0 0 0 0 0 0 0 0 0 0 0 0 0 0 0 0 0 0 0 h 0");
    }

    private static void group7() {
        text(false, "if0 (0, (fun e : int . (let b = 7 in 0) * (fun x : all t1 . int . e) (typ t1 . e)) ((fix c (d : int)"
            + " : int . 0) (0 * # 2 <1, 0> + (2 - 0))), # 3 # 2 <7 + 1 - (fun f : int . f) 2147483647, let c = (fix"
            + " c (z : int) : int . z) 2147483647 in <c, c, c>>)",
            new int[] {6, 20000, 20000, 1, 2000, 3000},
            "0 -1 1 \"int\" | 0 0 21 3 4 3 | 2 0 0 0 1 0 | 0 0 21 3 4 3");
        text(false, "let v0 = fun q : int . <1,1> in let v1 = typ q . fun p : q . v0 in let v2 = typ q . fun p : q . v1 i"
            + "n let v3 = typ q . fun p : q . v2 in let v4 = fun q : int . <v3,v3,v3,v3> in <v4,v4>",
            new int[] {8, 20000, 20000, 6, 2000, 3000},
            "5 177 0 \"\" | -1 0 0 0 0 0 | -1 0 0 0 0 0 | -1 0 0 0 0 0");
        text(true, "start: {} jmp start; L3: [q1 q2] {r7: <int, <int>>} ld r2, r7(0); bnz r2, L3 [q2] [int]; malloc r5 <"
            + "code {r1: int, r7: int}>; ld r2, r7(0); jmp start;",
            new int[] {3, 20000, 2000, 9, 200, 300},
            "0 -1 2 [e9fbffffffa11c0000008b8000000000a308000000a10800000085c00f8405000000e9deffffff89f881c7040000"
                + "0039f70f871a000000a314000000a11c0000008b8000000000a308000000e9afffffffcd01]83 8192 8197 | 1 0 0 3 0 "
                + "3 0 0 0 0 0 0 0 0 0 0 0 0 0 0 0 h 0 | 1 0 0 2000 0 2000 0 0 0 0 0 0 0 0 0 0 0 0 0 0 0 h 0 | 1 0 0 20"
                + "0 0 200 0 0 0 0 0 0 0 0 0 0 0 0 0 0 0 h 0");
        text(false, "(fix a (d : int) : int . a d) 1",
            new int[] {3, 20000, 20000, 2, 2000, 3000},
            "0 -1 1 \"int\" | 1 0 10 3 1 1 | 2 0 2 0 1 0 | 2 0 3000 1499 1 1");
        text(false, "(let c = # 1 <1> in (typ u1 . fun c : <int, int> . fix x (x : <int, int, int>) : (int -> int) -> int"
            + " . fix d (d : int -> int) : int . 7) [all t2 . t2] <c - c, (c)>) <2147483647, 3, 0> (fun b : int . b"
            + ")",
            new int[] {2, 20000, 20000, 36, 2000, 3000},
            "0 -1 1 \"int\" | 1 0 19 2 3 2 | 0 7 25 4 5 4 | 0 7 25 4 5 4");
        text(false, "# 1 ((fun d : int -> int . fix y (y : int -> int) : <int, int> . <1, 0>) (let a = 3 in fix a (x : in"
            + "t) : int . x) ((typ u1 . let a = 7 in fun b : int . a) [int -> int]))",
            new int[] {6, 20000, 20000, 24, 2000, 3000},
            "0 -1 1 \"int\" | 0 1 20 3 5 3 | 0 1 20 3 5 3 | 0 1 20 3 5 3");
        text(false, "let v0 = fun q : int . <1> in let v1 = <<<v0>>> in let v2 = <<<v1>>> in let v3 = fun q : int . <v2,v"
            + "2> in (typ a . fun x : a . <x,x,x>) [<<int,int,int,int>,<int,int,int,int>,<int,int,int,int>,<int,int"
            + ",int,int>,<int,int,int,int>,<int,int,int,int>,<int,int,int,int>,<int,int,int,int>>] 1",
            new int[] {5, 20000, 20000, 10, 2000, 3000},
            "5 106 0 \"\" | -1 0 0 0 0 0 | -1 0 0 0 0 0 | -1 0 0 0 0 0");
        text(true, "start : { } malloc r8 < < int , int > > ; mov r8 , r8 ; jmp L3 [ int ] [ some q4 . int ] ; L3 : [ q1"
            + " q2 ] { } jmp L3 [ int ] [ < > ] ;",
            new int[] {8, 20000, 2000, 20, 200, 300},
            "0 -1 2 [89f881c70400000039f70f8719000000a320000000a120000000a320000000e900000000e9fbffffffcd01]43 81"
                + "92 8228 | 1 0 1 8 0 6 0 0 0 0 0 0 0 65536 0 0 0 0 0 0 0 h 0 0 | 1 0 1 2000 0 1998 0 0 0 0 0 0 0 6553"
                + "6 0 0 0 0 0 0 0 h 0 0 | 1 0 1 200 0 198 0 0 0 0 0 0 0 65536 0 0 0 0 0 0 0 h 0 0");
        text(false, "(fix f (y : int) : int . f y) 7",
            new int[] {10, 20000, 20000, 14, 2000, 3000},
            "0 -1 1 \"int\" | 1 0 24 10 1 1 | 2 0 14 6 1 1 | 2 0 3000 1499 1 1");
        text(false, "(fix x1 (y : int -> int) : int . 0) (fun a : int . a * a + 0) * (2 * (let a = (fix y (d : all t1 . t"
            + "1) : int -> int -> <int> . fun c : int . fix y (f : int) : <int> . <f>) (typ t1 . (fix b (c : int) :"
            + " t1 . b c) 0) ((fun in1 : int . in1) 1) in 3))",
            new int[] {3, 20000, 20000, 13, 2000, 3000},
            "0 -1 1 \"int\" | 1 0 24 3 6 3 | 2 0 13 2 5 2 | 0 0 26 4 7 4");
    }

    private static void group8() {
        text(false, "if0 ((fix d (x : <int, int>) : int -> int -> int . fun f : int . fix z (b : int) : int . f) <0, 1> i"
            + "f0 (1, 7, 7) if0 (let x = 2 in x, 7, 0 * 2), 0 - (fun e : all t1 . int . fix d (b : int) : int . b) "
            + "(typ t1 . 1) ((fun c : int . (c)) 3), # 2 <2, 7, 7>)",
            new int[] {4, 20000, 20000, 2, 2000, 3000},
            "0 -1 1 \"int\" | 0 7 18 3 3 3 | 2 0 2 0 1 0 | 0 7 18 3 3 3");
        text(false, "(typ u1 . (fix x (R2 : int -> int) : int . # 1 ((fix d (y : all t2 . u1) : <int> . <2147483647>) (ty"
            + "p t2 . (fix b (y : int) : u1 . b y) 0))) if0 (# 2 <0, fun in1 : all t3 . int . 0, 3> (typ t3 . 0), f"
            + "un in1 : int . in1, let b = (fun in1 : <int> . fun y : all t4 . int . 2) <7> in (typ u5 . fun c : in"
            + "t . c) [u1 -> u1])) [int]",
            new int[] {2, 20000, 20000, 36, 2000, 3000},
            "0 -1 1 \"int\" | 1 0 19 2 5 2 | 0 2147483647 27 4 7 3 | 0 2147483647 27 4 7 3");
        text(false, "let d = typ t1 . typ t2 . 1 in (fun f : int -> int . f 1 - (fix x (a : int) : int . a) (2147483647 +"
            + " 0)) ((fix foo (x : <int, int, int>) : int -> int . fun y : int . let y = <> in 1) <let b = <<7, 1>,"
            + " 1, typ t3 . (fix in1 (f : int) : t3 . in1 f) 0> in 3, 3, (typ u4 . 1) [int]>)",
            new int[] {7, 20000, 20000, 32, 2000, 3000},
            "0 -1 1 \"int\" | 0 -2147483646 39 5 7 5 | 2 0 31 3 6 3 | 0 -2147483646 39 5 7 5");
        text(false, "(fun f : int . if0 (f, (fun a : int . f) (f - (f)), 2)) ((fun f : <int, int, int> . let e = 0 in e) "
            + "<(fix d (d : int -> int) : int . 0) (fun b : int . b), 1 * 2 + (fix f (x : int) : int . x) 3, if0 (#"
            + " 2 <1, 3>, 0, if0 (0, 0, 2))>) - 2",
            new int[] {4, 20000, 20000, 20, 2000, 3000},
            "0 -1 1 \"int\" | 1 0 33 4 6 4 | 2 0 20 2 5 2 | 0 -2 33 5 6 4");
        text(false, "(typ u1 . fun y : int . (fun z : <int, int, u1> . y) <y, y, (fix b (f : int) : u1 . b f) 0>) [int] #"
            + " 1 ((typ u2 . let y = 7 in <y>) [<int>])",
            new int[] {6, 20000, 20000, 40, 2000, 3000},
            "0 -1 1 \"int\" | 1 0 30 6 5 4 | 2 0 40 12 5 4 | 2 0 3000 1492 5 4");
        text(true, "q1 : { } malloc r3 < > ; malloc r7 < some q1 . int > ; jmp start ;",
            new int[] {7, 20000, 2000, 14, 200, 300},
            "4 59 0 []0 | -1 0 0 0 0 0 0 0 0 0 0 0 0 0 0 0 0 0 0 0 0 h 0 | -1 0 0 0 0 0 0 0 0 0 0 0 0 0 0 0 0 0 0"
                + " 0 0 h 0 | -1 0 0 0 0 0 0 0 0 0 0 0 0 0 0 0 0 0 0 0 0 h 0");
        text(false, "# 1 ((fun b : all t1 . int . fix x (e : int) : <int> . <e>) ((fun d : <int> . typ t1 . 0) <214748364"
            + "7>) (let in1 = (fun z : <int> . 3) <7> in 3))",
            new int[] {4, 20000, 20000, 19, 2000, 3000},
            "0 -1 1 \"int\" | 0 3 23 4 5 4 | 2 0 18 2 5 2 | 0 3 23 4 5 4");
        text(false, "# 2 ((fun y : int -> int . <y 1, if0 (1, 0, 1)>) ((fun c : int -> int . fix x (b : int -> int) : int"
            + " -> int . c) ((fun b : <int, int, int> . fix a (e : int) : int . e) <3, 0, 0>) if0 ((fix R2 (R2 : <i"
            + "nt, int>) : int . 7) <3, 2>, if0 (2147483647, fun z : int . z, fix x (x : int) : int . x), fun d : i"
            + "nt . d))) * 0",
            new int[] {1, 20000, 20000, 16, 2000, 3000},
            "0 -1 1 \"int\" | 1 0 18 1 4 1 | 2 0 16 1 4 1 | 0 0 41 6 7 6");
        text(true, "start: {} malloc r4 <some q2 . int>; malloc r8 <>; mov r9, r8; mov r3, r9; jmp L1; L1: {r3: <>} jmp "
            + "L1;",
            new int[] {0, 20000, 2000, 23, 200, 300},
            "0 -1 2 [89f881c70400000039f70f8738000000a31000000089f881c70000000039f70f8723000000a320000000a1200000"
                + "00a324000000a124000000a30c000000e900000000e9fbffffffcd01]74 8192 8259 | 1 0 0 0 0 0 0 0 0 0 0 0 0 0 "
                + "0 0 0 0 0 0 0 h 0 | 1 0 1 2000 0 1996 0 0 65540 65536 0 0 0 65540 65540 0 0 0 0 0 0 h 0 0 | 1 0 1 20"
                + "0 0 196 0 0 65540 65536 0 0 0 65540 65540 0 0 0 0 0 0 h 0 0");
        text(false, "( typ u1 . # 1 ( let z = ( fun a : all t3 . t3 . < typ t2 . 2147483647 , 2 > ) ( typ t3 . ( fix d ( "
            + "c : int ) : t3 . d c ) 0 ) in < fun R2 : int . R2 , 0 , ( fix R2 ( c : int ) : u1 . R2 c ) 0 > ) ( ("
            + " typ u4 . 2147483647 ) [ int ] ) ) [ int ]",
            new int[] {2, 20000, 20000, 1, 2000, 3000},
            "0 -1 1 \"int\" | 1 0 23 2 6 2 | 2 0 0 0 1 0 | 2 0 2999 1491 6 3");
    }

    private static void group9() {
        text(false, "(fun f : int . # 3 # 3 <f, f, <f, f, fix x (b : all t1 . int) : int . f>> (typ t1 . if0 (f, f, (f)))"
            + ") ((fix c (d : int) : int . c d) 3)",
            new int[] {6, 20000, 20000, 5, 2000, 3000},
            "0 -1 1 \"int\" | 1 0 19 6 2 1 | 2 0 5 0 2 0 | 2 0 2999 1497 2 1");
        text(false, "(fun f : int . let in1 = if0 (f, fix foo (foo : all t1 . int) : int . f, fun y : all t1 . int . f) i"
            + "n # 2 <f, f>) ((typ u2 . (typ u3 . if0 (if0 (7, 0, 1), (fix y (R2 : int) : int . R2) 1, if0 (0, 0, 2"
            + "147483647))) [int]) [int])",
            new int[] {4, 20000, 20000, 32, 2000, 3000},
            "0 -1 1 \"int\" | 0 0 16 3 4 2 | 0 0 16 3 4 2 | 0 0 16 3 4 2");
        text(true, "start : { } malloc r7 < int , int > ; malloc r8 < > ; mov r2 , r8 ; malloc r8 < < int ? > > ; malloc"
            + " r9 < int > ; mov r10 , r9 ; st r8 ( 0 ) , r10 ; mov r10 , r8 ; mov r3 , r10 ; jmp L3 [ code [ q6 q7"
            + " ] { r5 : q4 , r3 : int , r4 : int } ] [ < int ? , int ? > ] ; L3 : [ q1 q2 ] { r3 : < < int ? > > }"
            + " ld r5 , r3 ( 0 ) ; st r3 ( 0 ) , r5 ; jmp start ; L5 : [ q4 ] { } malloc r4 < q4 , code { r7 : int "
            + "} > ; jmp start ;",
            new int[] {5, 20000, 2000, 27, 200, 300},
            "4 210 0 []0 | -1 0 0 0 0 0 0 0 0 0 0 0 0 0 0 0 0 0 0 0 0 h 0 | -1 0 0 0 0 0 0 0 0 0 0 0 0 0 0 0 0 0 "
                + "0 0 0 h 0 | -1 0 0 0 0 0 0 0 0 0 0 0 0 0 0 0 0 0 0 0 0 h 0");
        text(false, "let v0 = <<<1>>> in let v1 = <v0,v0,v0> in let v2 = <v1,v1,v1,v1> in let v3 = <v2,v2,v2,v2> in let v"
            + "4 = typ q . fun p : q . v3 in 1",
            new int[] {3, 20000, 20000, 18, 2000, 3000},
            "5 78 0 \"\" | -1 0 0 0 0 0 | -1 0 0 0 0 0 | -1 0 0 0 0 0");
        text(true, "start: {} jmp start; L2: [q1] {} malloc r7 <<>>; jmp start;",
            new int[] {3, 20000, 2000, 6, 200, 300},
            "0 -1 2 [e9fbffffff89f881c70400000039f70f870a000000a31c000000e9e1ffffffcd01]33 8192 8197 | 1 0 0 3 0 "
                + "3 0 0 0 0 0 0 0 0 0 0 0 0 0 0 0 h 0 | 1 0 0 2000 0 2000 0 0 0 0 0 0 0 0 0 0 0 0 0 0 0 h 0 | 1 0 0 20"
                + "0 0 200 0 0 0 0 0 0 0 0 0 0 0 0 0 0 0 h 0");
        text(true, "start : { } mov r2 , start ; malloc r7 < int > ; jmp start ; L3 : [ q1 q2 ] { r4 : some q4 . < int ?"
            + " , q4 , q4 ? > } malloc r1 < < int > > ; jmp L3 [ < int > ] [ some q4 . < int ? , q4 , q4 ? > ] ; L6"
            + " : [ q5 ] { } malloc r2 < < > > ; malloc r8 < some q10 . q5 , < int > , int > ; mov r9 , 7 ; st r8 ("
            + " 0 ) , r9 ; mov r5 , r8 ; jmp L6 [ code [ q11 ] { r7 : q5 , r4 : int , r1 : q5 } ] ;",
            new int[] {4, 20000, 2000, 16, 200, 300},
            "5 307 0 []0 | -1 0 0 0 0 0 0 0 0 0 0 0 0 0 0 0 0 0 0 0 0 h 0 | -1 0 0 0 0 0 0 0 0 0 0 0 0 0 0 0 0 0 "
                + "0 0 0 h 0 | -1 0 0 0 0 0 0 0 0 0 0 0 0 0 0 0 0 0 0 0 0 h 0");
        text(false, "(fix d (y : all t1 . t1) : int . let x = if0 (2147483647, <2147483647, 3, 3>, <2, 0, 0>) in 21474836"
            + "47 + 1) (typ t1 . (fix R2 (a : int) : t1 . R2 a) 0) * (typ u2 . (fix x (f : int) : int . f) ((214748"
            + "3647 + 0) * if0 (0, 2147483647, 2))) [int]",
            new int[] {3, 20000, 20000, 17, 2000, 3000},
            "0 -1 1 \"int\" | 0 -2147483648 16 3 4 2 | 0 -2147483648 16 3 4 2 | 0 -2147483648 16 3 4 2");
        text(true, "start : { } malloc r1 < some q2 . q2 , < int , int ? > , int > ; malloc r5 < int , int > ; jmp start"
            + " ; L1 : { r3 : int , r6 : int } malloc r5 < int , code [ q3 ] { r4 : q3 , r1 : int } , code [ q4 q5 "
            + "] { } > ; bnz r6 , L1 ; malloc r5 < some q6 . int , < > > ; jmp start ;",
            new int[] {9, 20000, 2000, 7, 200, 300},
            "0 -1 2 [89f881c70c00000039f70f8760000000a30400000089f881c70800000039f70f874b000000a314000000e9d1ffff"
                + "ff89f881c70c00000039f70f8731000000a314000000a11800000085c00f8405000000e9d9ffffff89f881c70800000039f7"
                + "0f870a000000a314000000e990ffffffcd01]114 8192 8239 | 1 0 15 9 0 3 65576 0 0 0 65588 0 0 0 0 0 0 0 0 "
                + "0 0 h 0 0 0 0 0 0 0 0 0 0 0 0 0 0 0 0 | 2 0 5 3 0 1 65536 0 0 0 65548 0 0 0 0 0 0 0 0 0 0 h 0 0 0 0 "
                + "0 0 | 2 0 300 180 0 60 66716 0 0 0 66728 0 0 0 0 0 0 0 0 0 0 h 0 0 0 0 0 0 0 0 0 0 0 0 0 0 0 0 0 0 0"
                + " 0 0 0 0 0 0 0 0 0 0 0 0 0 0 0 0 0 0 0 0 0");
        text(false, "if0 ( # 2 < 1 , fun x1 : int . x1 > 2147483647 , 2147483647 , ( fix y ( d : all t1 . int ) : int -> "
            + "int -> int . fix z ( x : int ) : int -> int . fun y : int . y ) ( typ t1 . 7 ) ( 1 - 7 ) 7 ) - 21474"
            + "83647",
            new int[] {2, 20000, 20000, 6, 2000, 3000},
            "0 -1 1 \"int\" | 1 0 16 2 4 2 | 2 0 6 1 2 1 | 0 -2147483640 20 4 5 4");
        text(false, "(typ u1 . # 1 <0, (fix y (in1 : int) : u1 . y in1) 0, 7>) [int]",
            new int[] {2, 20000, 20000, 7, 2000, 3000},
            "0 -1 1 \"int\" | 1 0 11 2 2 2 | 2 0 7 1 2 1 | 2 0 2999 1497 2 2");
    }

    private static void group10() {
        text(false, "( fun x : < > . 3 * 0 - ( fun c : int . c ) ( ( fix y ( x : int ) : int . x ) 2 ) ) ( ( typ u1 . < >"
            + " ) [ < <> , int > ] )",
            new int[] {0, 20000, 20000, 31, 2000, 3000},
            "0 -1 1 \"int\" | 1 0 7 0 2 0 | 0 -2 22 4 4 4 | 0 -2 22 4 4 4");
        text(false, "(fix x (R2 : int) : int . (typ u1 . if0 (x (let f = R2 in R2), R2, (typ u2 . R2) [<u1, int>])) [int]"
            + ") ((fun e : int . e * # 1 <fun z : <int, int> . e> ((fun x : int -> int . <e, (e)>) (fun d : int . e"
            + "))) (if0 ((fun c : int -> int . 0) ((fun b : int . fun c : int . b) 7), fun e : int . # 1 <e, e, e>,"
            + " fun e : int . e + e) 0))",
            new int[] {1, 20000, 20000, 34, 2000, 3000},
            "0 -1 1 \"int\" | 1 0 20 1 5 1 | 2 0 33 4 7 4 | 2 0 2999 595 304 301");
        text(false, "(fun b : all t1 . int . (fix y (c : int -> int) : int . 7) (fix a (b : int) : int . b)) ((fun f : <i"
            + "nt, int> . typ t1 . 0) if0 (2147483647, <2, 3>, <3, 0>))",
            new int[] {9, 20000, 20000, 26, 2000, 3000},
            "0 -1 1 \"int\" | 0 7 17 3 5 2 | 0 7 17 3 5 2 | 0 7 17 3 5 2");
        text(true, "start : { } malloc r4 < int , int , int > ; malloc r1 < code [ q4 q5 ] { r6 : zz , r3 : int } > ; ma"
            + "lloc r8 < < > , int , some q6 . int > ; malloc r9 < > ; mov r10 , r9 ; st r8 ( 0 ) , r10 ; mov r10 ,"
            + " pack [ int , 0 ] as some q4 . int ; st r8 ( 1 ) , r10 ; mov r6 , r8 ; jmp start ; L3 : [ q1 q2 ] { "
            + "r5 : q2 , r2 : int } mov r4 , - 3 ; mov r5 , r5 ; jmp start ;",
            new int[] {6, 20000, 2000, 30, 200, 300},
            "4 78 0 []0 | -1 0 0 0 0 0 0 0 0 0 0 0 0 0 0 0 0 0 0 0 0 h 0 | -1 0 0 0 0 0 0 0 0 0 0 0 0 0 0 0 0 0 0"
                + " 0 0 h 0 | -1 0 0 0 0 0 0 0 0 0 0 0 0 0 0 0 0 0 0 0 0 h 0");
        text(false, "(fun e : all t1 . int . if0 (1, fun z : int -> int . z, fix a (y : int -> int) : int -> int . y)) (("
            + "fix y (z : int) : all t1 . int . typ t1 . z) (2 * 0)) (fix y (in1 : int) : int . in1) 0",
            new int[] {11, 20000, 20000, 5, 2000, 3000},
            "0 -1 1 \"int\" | 0 0 20 4 5 4 | 2 0 5 0 2 0 | 0 0 20 4 5 4");
        text(true, "start : { } jmp L2 [ zz ] ; L2 : [ q1 ] { } jmp L2 [ int ] ;",
            new int[] {3, 20000, 2000, 27, 200, 300},
            "4 21 0 []0 | -1 0 0 0 0 0 0 0 0 0 0 0 0 0 0 0 0 0 0 0 0 h 0 | -1 0 0 0 0 0 0 0 0 0 0 0 0 0 0 0 0 0 0"
                + " 0 0 h 0 | -1 0 0 0 0 0 0 0 0 0 0 0 0 0 0 0 0 0 0 0 0 h 0");
        text(true, "start : { } malloc r7 < int > ; jmp L1 ; L1 : { } malloc r1 < code [ q2 q3 ] { r7 : q2 , r1 : q3 , r"
            + "7 : q2 } > ; jmp start ;",
            new int[] {5, 20000, 2000, 30, 200, 300},
            "3 99 0 []0 | -1 0 0 0 0 0 0 0 0 0 0 0 0 0 0 0 0 0 0 0 0 h 0 | -1 0 0 0 0 0 0 0 0 0 0 0 0 0 0 0 0 0 0"
                + " 0 0 h 0 | -1 0 0 0 0 0 0 0 0 0 0 0 0 0 0 0 0 0 0 0 0 h 0");
        text(false, "let v0 = typ q . fun p : q . 1 in let v1 = <v0> in let v2 = <v1,v1,v1,v1> in (typ a . fun x : a . <x"
            + ",x,x>) [<<int,int,int,int>,<int,int,int,int>,<int,int,int,int>,<int,int,int,int>,<int,int,int,int>,<"
            + "int,int,int,int>,<int,int,int,int>,<int,int,int,int>>] 1",
            new int[] {5, 20000, 20000, 36, 2000, 3000},
            "5 77 0 \"\" | -1 0 0 0 0 0 | -1 0 0 0 0 0 | -1 0 0 0 0 0");
        text(true, "start : { } malloc r5 < < int > > ; jmp L4 ; L2 : [ q1 ] { r4 : L2 } malloc r1 < q1 > ; malloc r7 < "
            + "some q6 . q1 , int > ; malloc r8 < > ; mov r1 , r8 ; jmp start ; L3 : { } malloc r6 < < > > ; jmp st"
            + "art ; L4 : { } malloc r8 < int , int > ; mov r9 , 2147483647 ; st r8 ( 1 ) , r9 ; mov r9 , r8 ; mov "
            + "r4 , r9 ; jmp L2 [ < int ? , int > ] ;",
            new int[] {1, 20000, 2000, 7, 200, 300},
            "4 64 0 []0 | -1 0 0 0 0 0 0 0 0 0 0 0 0 0 0 0 0 0 0 0 0 h 0 | -1 0 0 0 0 0 0 0 0 0 0 0 0 0 0 0 0 0 0"
                + " 0 0 h 0 | -1 0 0 0 0 0 0 0 0 0 0 0 0 0 0 0 0 0 0 0 0 h 0");
        text(false, "(fix d (x1 : all t1 . int) : int . 0) ((fun foo : int -> int . fix d (x : all t2 . int) : all t1 . i"
            + "nt . typ t1 . 3) (fix a (x : int) : int . a x) ((fun c : <int, int, int> . fun f : int . typ t2 . f)"
            + " <7, 3, 1> ((fun d : all t3 . int . fun a : int . a) (typ t3 . 2147483647) # 1 <2147483647>)))",
            new int[] {2, 20000, 20000, 12, 2000, 3000},
            "0 -1 1 \"int\" | 1 0 31 2 8 2 | 2 0 11 1 5 1 | 0 0 53 7 11 7");
    }

    private static void group11() {
        text(false, "let v0 = typ q . fun p : q . 1 in let v1 = <<<v0>>> in let v2 = fun q : int . <v1,v1,v1,v1> in let v"
            + "3 = <v2,v2,v2,v2> in (fun q : int . q) v3",
            new int[] {1, 20000, 20000, 7, 2000, 3000},
            "5 104 0 \"\" | -1 0 0 0 0 0 | -1 0 0 0 0 0 | -1 0 0 0 0 0");
        text(false, "(typ u1 . (typ u2 . (fun f : <int> . 0 + 0) ((fix in1 (y : all t3 . u2) : (int -> int) -> <int> . fu"
            + "n b : int -> int . <2147483647>) (typ t3 . (fix f (R2 : int) : u2 . f R2) 0) ((fun z : u1 . fix e (R"
            + "2 : int) : int . R2) ((fix b (x : int) : u1 . b x) 0)))) [int]) [int]",
            new int[] {9, 20000, 20000, 30, 2000, 3000},
            "0 -1 1 \"int\" | 1 0 40 9 8 3 | 2 0 30 5 8 3 | 2 0 3000 1490 8 3");
        text(false, "let v0 = <1,1> in let v1 = typ q . fun p : q . v0 in (typ a . fun x : a . <x,x,x>) [<<int,int,int,in"
            + "t>,<int,int,int,int>,<int,int,int,int>,<int,int,int,int>,<int,int,int,int>>] 1",
            new int[] {4, 20000, 20000, 32, 2000, 3000},
            "5 53 0 \"\" | -1 0 0 0 0 0 | -1 0 0 0 0 0 | -1 0 0 0 0 0");
        text(true, "start : { } mov r5 , 1 ; mov r1 , r5 ; malloc r4 < int , int > ; jmp start ; L1 : { r1 : < < > , int"
            + " , < int > ? > } ld r6 , r1 ( 0 ) ; malloc r4 < > ; ld r7 , r1 ( 1 ) ; ld r3 , r1 ( 7 ) ; mul r6 , r"
            + "7 , r7 ; add r6 , r6 , r6 ; jmp L1 ; L2 : { r7 : some q3 . < > , r2 : int } malloc r1 < < > > ; add "
            + "r7 , r2 , r2 ; sub r1 , r7 , r7 ; mov r2 , r1 ; jmp start ;",
            new int[] {1, 20000, 2000, 26, 200, 300},
            "5 179 0 []0 | -1 0 0 0 0 0 0 0 0 0 0 0 0 0 0 0 0 0 0 0 0 h 0 | -1 0 0 0 0 0 0 0 0 0 0 0 0 0 0 0 0 0 "
                + "0 0 0 h 0 | -1 0 0 0 0 0 0 0 0 0 0 0 0 0 0 0 0 0 0 0 0 h 0");
        text(false, "if0 ((typ u1 . 0 - 0) [int], (typ u2 . if0 (1, (typ u3 . 0) [<u2, u2>], (fix a (d : int) : int . d) "
            + "2147483647)) [int], (typ u4 . if0 (2 - 2147483647, 1, 1)) [int -> int])",
            new int[] {0, 20000, 20000, 32, 2000, 3000},
            "0 -1 1 \"int\" | 1 0 4 0 1 0 | 0 2147483647 10 3 3 2 | 0 2147483647 10 3 3 2");
        text(false, "(fun y : <int, int> . # 2 y) <0, (fun y : int . (fun y : all t1 . int . 0) (typ t1 . y)) (0 + (fun y"
            + " : int -> int . 1) (fix f (e : int) : int . e)) * # 1 ((typ u2 . fun f : int . <f, f, f>) [int] if0 "
            + "(2, 0, 2))>",
            new int[] {0, 20000, 20000, 28, 2000, 3000},
            "0 -1 1 \"int\" | 1 0 12 0 4 0 | 2 0 28 4 8 3 | 0 0 39 6 8 5");
        text(true, "start : { } mov r4 , L3 ; malloc r3 < > ; malloc r3 < > ; mov r1 , - 3 ; mov r8 , start ; mov r2 , r"
            + "8 ; jmp L3 [ < > ] [ int ] ; L3 : [ zz q2 ] { r1 : int , r2 : code { } } sub r1 , r1 , pack [int, r1"
            + "] as some a . a ; bnz r1 , L3 [ int ] [ int ] ; bnz r1 , L3 [ int ] [ q2 ] ; sub r1 , r1 , r1 ; mall"
            + "oc r2 < > ; mov r2 , L5 ; jmp start ; L5 : [ q4 ] { } malloc r5 < int > ; jmp start ;",
            new int[] {4, 20000, 2000, 25, 200, 300},
            "5 187 0 []0 | -1 0 0 0 0 0 0 0 0 0 0 0 0 0 0 0 0 0 0 0 0 h 0 | -1 0 0 0 0 0 0 0 0 0 0 0 0 0 0 0 0 0 "
                + "0 0 0 h 0 | -1 0 0 0 0 0 0 0 0 0 0 0 0 0 0 0 0 0 0 0 0 h 0");
        text(true, "start : { } malloc r2 < int , int , int > ; malloc r6 < int , < int , int ? > > ; jmp start ; L3 : ["
            + " q1 q2 ] { r4 : code [ q6 q7 ] { r7 : int } , r1 : some q4 . some q5 . int , r6 : q1 } jmp start ;",
            new int[] {0, 20000, 2000, 19, 200, 300},
            "0 -1 2 [89f881c70c00000039f70f8724000000a30800000089f881c70800000039f70f870f000000a318000000e9d1ffff"
                + "ffe9ccffffffcd01]54 8192 8239 | 1 0 0 0 0 0 0 0 0 0 0 0 0 0 0 0 0 0 0 0 0 h 0 | 2 0 18 10 0 3 0 6559"
                + "6 0 0 0 65588 0 0 0 0 0 0 0 0 0 h 0 0 0 0 0 0 0 0 0 0 0 0 0 0 0 0 0 0 0 | 2 0 300 180 0 60 0 66716 0"
                + " 0 0 66728 0 0 0 0 0 0 0 0 0 h 0 0 0 0 0 0 0 0 0 0 0 0 0 0 0 0 0 0 0 0 0 0 0 0 0 0 0 0 0 0 0 0 0 0 0"
                + " 0 0 0 0 0");
        text(true, "start : { } malloc r1 < int , int > ; jmp L7 ; L2 : [ q1 ] { r2 : some q3 . < q1 , int ? > , r5 : co"
            + "de { r2 : some q5 . q1 } } unpack k9 , r1 , r2 ; ld r3 , r1 ( 0 ) ; st r1 ( 0 ) , r3 ; ld r4 , r1 ( "
            + "0 ) ; jmp L8 ; L6 : [ q5 ] { } malloc r3 < < int , int , code [b] {r1: b, r1: int} > > ; jmp start ;"
            + " L7 : { } jmp L8 ; L8 : { } jmp L8 ;",
            new int[] {1, 20000, 2000, 1, 200, 300},
            "3 274 0 []0 | -1 0 0 0 0 0 0 0 0 0 0 0 0 0 0 0 0 0 0 0 0 h 0 | -1 0 0 0 0 0 0 0 0 0 0 0 0 0 0 0 0 0 "
                + "0 0 0 h 0 | -1 0 0 0 0 0 0 0 0 0 0 0 0 0 0 0 0 0 0 0 0 h 0");
        text(false, "if0 ((typ u1 . (typ u2 . fix y (f : int) : int . f) [all t3 . t3]) [int] (0 + (0 - 0)), # 1 <# 1 <1>"
            + ", 7>, (fix b (z : int) : int . (fun c : <int> . (z)) <z>) 0)",
            new int[] {1, 20000, 20000, 20, 2000, 3000},
            "0 -1 1 \"int\" | 1 0 6 1 2 1 | 0 1 13 3 3 2 | 0 1 13 3 3 2");
    }

    private static void group12() {
        text(true, "start : { } malloc r3 < code { r5 : int } , int > ; malloc r1 < < int ? , int > , int , code [ q1 ] "
            + "{ r2 : q1 , r3 : int } > ; jmp start ;",
            new int[] {5, 20000, 2000, 5, 200, 300},
            "0 -1 2 [89f881c70800000039f70f871f000000a30c00000089f881c70c00000039f70f870a000000a304000000e9d1ffff"
                + "ffcd01]49 8192 | 1 0 10 5 0 1 65564 0 65556 0 0 0 0 0 0 0 0 0 0 0 0 h 0 0 0 0 0 0 0 0 0 0 0 | 2 0 5 "
                + "3 0 1 65544 0 65536 0 0 0 0 0 0 0 0 0 0 0 0 h 0 0 0 0 0 0 | 2 0 300 180 0 60 66724 0 66716 0 0 0 0 0"
                + " 0 0 0 0 0 0 0 h 0 0 0 0 0 0 0 0 0 0 0 0 0 0 0 0 0 0 0 0 0 0 0 0 0 0 0 0 0 0 0 0 0 0 0 0 0 0 0 0");
        text(true, "start : { } malloc r6 < int , some q3 . int , < code [a a] {} ? , int , int > > ; malloc r6 < some q"
            + "4 . q4 , some q5 . q5 > ; jmp L2 [ < some q4 . q4 ? , some q5 . q5 ? > ] ; L2 : [ q1 ] { } malloc r2"
            + " < int , < q1 ? , q1 > > ; malloc r8 < > ; mov r3 , r8 ; jmp start ;",
            new int[] {5, 20000, 2000, 18, 200, 300},
            "3 56 0 []0 | -1 0 0 0 0 0 0 0 0 0 0 0 0 0 0 0 0 0 0 0 0 h 0 | -1 0 0 0 0 0 0 0 0 0 0 0 0 0 0 0 0 0 0"
                + " 0 0 h 0 | -1 0 0 0 0 0 0 0 0 0 0 0 0 0 0 0 0 0 0 0 0 h 0");
        text(false, "if0 (2, (fun b : int . b) (let a = <fun d : int . d, <0, 0, 7>> in 3), (fun d : int . fun a : int . "
            + "(d)) 2147483647 # 3 <1, 2, 3>) - (let x = 0 - 7 in x) * (fun b : int -> int . b) (fix d (d : int) : "
            + "int . d) 0",
            new int[] {2, 20000, 20000, 24, 2000, 3000},
            "0 -1 1 \"int\" | 1 0 20 2 4 2 | 0 2147483647 24 4 4 4 | 0 2147483647 24 4 4 4");
        text(true, "start: {} mov r1, 4; halt; L2: [q1] {r7: code [q3] {r7: code [q4 q5] {}}} mov r3, start; malloc r7 <"
            + ">; mov r8, L7; mov r7, r8; jmp L2 [some q6 . q1]; L7: [q3] {r7: code [q4 q5] {}} malloc r7 <int, som"
            + "e q8 . q8, int>; jmp start;",
            new int[] {3, 20000, 2000, 3, 200, 300},
            "0 -1 2 [b804000000a304000000f4b800200000a30c00000089f881c70000000039f70f8738000000a31c000000b8432000"
                + "00a320000000a120000000a31c000000e9c8ffffff89f881c70c00000039f70f870a000000a31c000000e9a3ffffffcd01]9"
                + "5 8192 8203 8259 | 0 4 0 2 0 0 4 0 0 0 0 0 0 0 0 0 0 0 0 0 0 h 0 | 0 4 0 2 0 0 4 0 0 0 0 0 0 0 0 0 0"
                + " 0 0 0 0 h 0 | 0 4 0 2 0 0 4 0 0 0 0 0 0 0 0 0 0 0 0 0 0 h 0");
        text(true, "start : { } malloc r7 < int , int , some q3 . int > ; malloc r8 < int > ; mov r9 , 5 ; st r8 ( 0 ) ,"
            + " r9 ; mov r2 , r8 ; mov r2 , r9 ; jmp L2 ; L1 : { } mov r4 , 7 ; malloc r8 < < > > ; mov r9 , r4 ; s"
            + "t r8 ( 0 ) , r9 ; mov r9 , r8 ; mov r2 , r9 ; jmp L2 ; L2 : { r2 : < int > } ld r4 , r2 ( 0 ) ; bnz "
            + "r4 , L1 ; jmp L1 ;",
            new int[] {6, 20000, 2000, 2, 200, 300},
            "5 138 0 []0 | -1 0 0 0 0 0 0 0 0 0 0 0 0 0 0 0 0 0 0 0 0 h 0 | -1 0 0 0 0 0 0 0 0 0 0 0 0 0 0 0 0 0 "
                + "0 0 0 h 0 | -1 0 0 0 0 0 0 0 0 0 0 0 0 0 0 0 0 0 0 0 0 h 0");
        text(true, "start : { } jmp start ; L3 : [ q1 q2 ] { r1 : int , r3 : < some q4 . int ? , int , q1 > } malloc r8 "
            + "< int , < > > ; mov r9 , r1 ; st r8 ( 3 ) , r9 ; mov r4 , r8 ; sub r5 , r1 , - 7 ; malloc r1 < some "
            + "q5 . int , < q2 > > ; jmp start ;",
            new int[] {2, 20000, 2000, 29, 200, 300},
            "5 133 0 []0 | -1 0 0 0 0 0 0 0 0 0 0 0 0 0 0 0 0 0 0 0 0 h 0 | -1 0 0 0 0 0 0 0 0 0 0 0 0 0 0 0 0 0 "
                + "0 0 0 h 0 | -1 0 0 0 0 0 0 0 0 0 0 0 0 0 0 0 0 0 0 0 0 h 0");
        text(false, "(typ u1 . (fun e : <> . (typ u2 . 0) [int]) <>) [int]",
            new int[] {2, 20000, 20000, 38, 2000, 3000},
            "0 -1 1 \"int\" | 1 0 8 2 3 1 | 0 0 8 3 3 1 | 0 0 8 3 3 1");
        text(true, "start : { } malloc r7 < int , int , < int ? , int > > ; malloc r1 < > ; mov r8 , - 3 ; mov r9 , r8 ;"
            + " mov r10 , r9 ; mov r6 , r8 ; mov r2 , r9 ; mov r1 , r10 ; jmp L1 ; L1 : { r15 : int , r1 : int , r6"
            + " : int } mul r3 , r6 , r1 ; malloc r5 < < int ? , int ? > , int , int > ; mul r6 , r6 , - 7 ; st r5 "
            + "( 1 ) , r3 ; jmp start ;",
            new int[] {10, 20000, 2000, 18, 200, 300},
            "5 163 0 []0 | -1 0 0 0 0 0 0 0 0 0 0 0 0 0 0 0 0 0 0 0 0 h 0 | -1 0 0 0 0 0 0 0 0 0 0 0 0 0 0 0 0 0 "
                + "0 0 0 h 0 | -1 0 0 0 0 0 0 0 0 0 0 0 0 0 0 0 0 0 0 0 0 h 0");
        text(true, "start : { } malloc r2 < int , int > ; malloc r8 < < int , int ? > , code [ q2 q3 ] { r2 : q2 , r4 : "
            + "int , r5 : q3 } , < int > > ; malloc r9 < int , int > ; mov r10 , - 3 ; st r9 ( 0 ) , r10 ; mov r9 ,"
            + " r9 ; st r8 ( 0 ) , r10 ; malloc r10 < int > ; mov r11 , 5 ; st r10 ( 0 ) , r11 ; mov r11 , r10 ; st"
            + " r8 ( 2 ) , r11 ; mov r6 , r8 ; ld r7 , r6 ( 0 ) ; jmp start ; L1 : { r5 : < > } jmp start ;",
            new int[] {8, 20000, 2000, 10, 200, 300},
            "5 220 0 []0 | -1 0 0 0 0 0 0 0 0 0 0 0 0 0 0 0 0 0 0 0 0 h 0 | -1 0 0 0 0 0 0 0 0 0 0 0 0 0 0 0 0 0 "
                + "0 0 0 h 0 | -1 0 0 0 0 0 0 0 0 0 0 0 0 0 0 0 0 0 0 0 0 h 0");
        text(true, "start : { } mov r2 , - 3 ; malloc r3 < some q1 . int , code { r4 : int , r7 : int , r4 : int } , som"
            + "e q2 . int > ; jmp start ;",
            new int[] {1, 20000, 2000, 20, 200, 300},
            "3 84 0 []0 | -1 0 0 0 0 0 0 0 0 0 0 0 0 0 0 0 0 0 0 0 0 h 0 | -1 0 0 0 0 0 0 0 0 0 0 0 0 0 0 0 0 0 0"
                + " 0 0 h 0 | -1 0 0 0 0 0 0 0 0 0 0 0 0 0 0 0 0 0 0 0 0 h 0");
    }

    private static void group13() {
        text(true, "start: {} malloc r3 <code [q3 q4] {}, <int>, <int, int>>; malloc r8 <int>; mov r9, r8; mov r10, 7; m"
            + "ov r2, r9; mov r4, r10; jmp L1; L1: {r4: int, r2: <int?>} bnz r4, L2; st r2(0), r4; st r2(0), r4; mo"
            + "v r3, L2; sub r3, r4, r4; ld r2, r2(0); jmp start; L2: {} malloc r1 <int, int, some q5 . q5>; malloc"
            + " r4 <int, int>; jmp L2;",
            new int[] {11, 20000, 2000, 16, 200, 300},
            "0 -1 2 [89f881c70c00000039f70f87d9000000a30c00000089f881c70400000039f70f87c4000000a320000000a1200000"
                + "00a324000000b807000000a328000000a124000000a308000000a128000000a310000000e900000000a11000000085c00f84"
                + "05000000e951000000a1100000008b0d08000000898100000000a1100000008b0d08000000898100000000b8ba200000a30c"
                + "000000a1100000002b0510000000a30c000000a1080000008b8000000000a308000000e946ffffff89f881c70c00000039f7"
                + "0f871f000000a30400000089f881c70800000039f70f870a000000a310000000e9d1ffffffcd01]235 8192 8279 8378 | "
                + "1 0 9 11 0 3 65552 65548 65536 65564 0 0 0 65548 65548 7 0 0 0 0 0 h 0 0 0 0 0 0 0 0 0 0 | 2 0 14 14"
                + " 0 4 65572 65548 65536 65584 0 0 0 65548 65548 7 0 0 0 0 0 h 0 0 0 0 0 0 0 0 0 0 0 0 0 0 0 | 2 0 299"
                + " 185 0 61 66712 65548 65536 66724 0 0 0 65548 65548 7 0 0 0 0 0 h 0 0 0 0 0 0 0 0 0 0 0 0 0 0 0 0 0 "
                + "0 0 0 0 0 0 0 0 0 0 0 0 0 0 0 0 0 0 0 0 0 0 0");
        text(true, "start : { } jmp start ; L2 : [ q1 ] { } malloc r3 < < q1 ? , q1 , code [a a] {} > , q1 > ; jmp start"
            + " ;",
            new int[] {10, 20000, 2000, 0, 200, 300},
            "3 74 0 []0 | -1 0 0 0 0 0 0 0 0 0 0 0 0 0 0 0 0 0 0 0 0 h 0 | -1 0 0 0 0 0 0 0 0 0 0 0 0 0 0 0 0 0 0"
                + " 0 0 h 0 | -1 0 0 0 0 0 0 0 0 0 0 0 0 0 0 0 0 0 0 0 0 h 0");
        text(true, "start: {} mov r7, 5; sub r7, r7, 3; bnz r7, L1; malloc r8 <>; mov r1, r8; malloc r5 <>; jmp L1; L1: "
            + "{} mov r1, 4; halt; L3: [q2] {r2: int} mul r2, r2, 1; bnz r2, L1; malloc r1 <>; malloc r1 <<>>; bnz "
            + "r2, start; jmp start;",
            new int[] {11, 20000, 2000, 2, 200, 300},
            "0 -1 2 [b805000000a31c000000a11c0000002d03000000a31c000000a11c00000085c00f8405000000e93900000089f881"
                + "c70000000039f70f8797000000a320000000a120000000a30400000089f881c70000000039f70f8778000000a314000000e9"
                + "00000000b804000000a304000000f4a10800000069c001000000a308000000a10800000085c00f8405000000e9d3ffffff89"
                + "f881c70000000039f70f8731000000a30400000089f881c70400000039f70f871c000000a304000000a10800000085c00f84"
                + "05000000e933ffffffe92effffffcd01]212 8192 8292 8303 | 0 4 0 5 0 1 4 0 0 0 0 0 2 0 0 0 0 0 0 0 0 h 0 "
                + "| 0 4 0 5 0 1 4 0 0 0 0 0 2 0 0 0 0 0 0 0 0 h 0 | 0 4 0 5 0 1 4 0 0 0 0 0 2 0 0 0 0 0 0 0 0 h 0");
        text(true, "start: {} malloc r5 <>; malloc r3 <<int, int?, int?>, int>; mov r5, L2; mov r5, L4; mov r5, 1; jmp L"
            + "2; L1: {r5: int, r1: code {r1: int}} jmp L2; L2: {} malloc r3 <some q5 . int, <>, some q6 . int>; ma"
            + "lloc r2 <code {}, <int, int>, int>; jmp L2; L4: [q3] {} malloc r8 <int, q3>; mov r9, 7; st r8(0), r9"
            + "; mov r7, pack [int, r8] as some q7 . <int, q3?>; malloc r7 <>; malloc r1 <int, some q8 . int>; jmp "
            + "start;",
            new int[] {8, 20000, 2000, 25, 200, 300},
            "0 -1 2 [89f881c70000000039f70f87da000000a31400000089f881c70800000039f70f87c5000000a30c000000b8522000"
                + "00a314000000b881200000a314000000b801000000a314000000e905000000e90000000089f881c70c00000039f70f878800"
                + "0000a30c00000089f881c70c00000039f70f8773000000a308000000e9d1ffffff89f881c70800000039f70f8759000000a3"
                + "20000000b807000000a324000000a1240000008b0d20000000898100000000a120000000a31c00000089f881c70000000039"
                + "f70f871f000000a31c00000089f881c70800000039f70f870a000000a304000000e916ffffffcd01]236 8192 8269 8274 "
                + "8321 | 1 0 8 8 0 1 0 65556 65544 0 1 0 0 0 0 0 0 0 0 0 0 h 0 0 0 0 0 0 0 0 0 | 2 0 23 16 0 4 0 65604"
                + " 65616 0 1 0 0 0 0 0 0 0 0 0 0 h 0 0 0 0 0 0 0 0 0 0 0 0 0 0 0 0 0 0 0 0 0 0 0 0 | 2 0 299 154 0 50 "
                + "0 66708 66720 0 1 0 0 0 0 0 0 0 0 0 0 h 0 0 0 0 0 0 0 0 0 0 0 0 0 0 0 0 0 0 0 0 0 0 0 0 0 0 0 0 0 0 "
                + "0 0 0 0 0 0 0 0 0 0");
        text(true, "start: {} malloc r7 <code {r2: int, r6: int, r7: int}, int, code {}>; malloc r7 <some q1 . q1, some "
            + "q2 . int, int>; jmp start;",
            new int[] {3, 20000, 2000, 18, 200, 300},
            "0 -1 2 [89f881c70c00000039f70f871f000000a31c00000089f881c70c00000039f70f870a000000a31c000000e9d1ffff"
                + "ffcd01]49 8192 | 1 0 6 3 0 1 0 0 0 0 0 0 65548 0 0 0 0 0 0 0 0 h 0 0 0 0 0 0 0 | 2 0 18 9 0 3 0 0 0 "
                + "0 0 0 65596 0 0 0 0 0 0 0 0 h 0 0 0 0 0 0 0 0 0 0 0 0 0 0 0 0 0 0 0 | 2 0 300 150 0 50 0 0 0 0 0 0 6"
                + "6724 0 0 0 0 0 0 0 0 h 0 0 0 0 0 0 0 0 0 0 0 0 0 0 0 0 0 0 0 0 0 0 0 0 0 0 0 0 0 0 0 0 0 0 0 0 0 0 0"
                + " 0");
        text(true, "start : { } malloc r5 < int , some q1 . q1 > ; malloc r6 < int , < int , int > , < int , int ? , int"
            + " > > ; jmp start ;",
            new int[] {0, 20000, 2000, 30, 200, 300},
            "0 -1 2 [89f881c70800000039f70f871f000000a31400000089f881c70c00000039f70f870a000000a318000000e9d1ffff"
                + "ffcd01]49 8192 | 1 0 0 0 0 0 0 0 0 0 0 0 0 0 0 0 0 0 0 0 0 h 0 | 2 0 30 18 0 6 0 0 0 0 65636 65644 0"
                + " 0 0 0 0 0 0 0 0 h 0 0 0 0 0 0 0 0 0 0 0 0 0 0 0 0 0 0 0 0 0 0 0 0 0 0 0 0 0 0 0 | 2 0 300 180 0 60 "
                + "0 0 0 0 66716 66724 0 0 0 0 0 0 0 0 0 h 0 0 0 0 0 0 0 0 0 0 0 0 0 0 0 0 0 0 0 0 0 0 0 0 0 0 0 0 0 0 "
                + "0 0 0 0 0 0 0 0 0 0");
        text(true, "start : { } malloc r8 < > ; mov r3 , r8 ; mov r4 , pack [ some q3 . int , pack [ int , 1 ] as some q"
            + "2 . int ] as some q1 . some zz . int ; malloc r3 < some q4 . q4 , < int > > ; unpack q4 , r7 , r4 ; "
            + "mov r1 , 4 ; halt ;",
            new int[] {11, 20000, 2000, 20, 200, 300},
            "0 -1 2 [89f881c70000000039f70f8743000000a320000000a120000000a30c000000b801000000a31000000089f881c708"
                + "00000039f70f871a000000a30c000000a110000000a31c000000b804000000a304000000f4cd01]85 8192 | 0 4 2 7 0 0"
                + " 4 0 65536 1 0 0 1 65536 0 0 0 0 0 0 0 h 0 0 0 | 0 4 2 7 0 0 4 0 65536 1 0 0 1 65536 0 0 0 0 0 0 0 h"
                + " 0 0 0 | 0 4 2 7 0 0 4 0 65536 1 0 0 1 65536 0 0 0 0 0 0 0 h 0 0 0");
        text(true, "start : { } mov r1 , 3 ; halt ; L1 : { r6 : < int ? , < > ? , int > , r5 : some q2 . < int , q2 > , "
            + "r2 : code { r1 : int , r5 : int } } malloc r7 < int , int , code { r7 : int , r4 : int } > ; jmp L1 "
            + ";",
            new int[] {8, 20000, 2000, 22, 200, 300},
            "0 -1 2 [b803000000a304000000f489f881c70c00000039f70f870a000000a31c000000e9e6ffffffcd01]39 8192 8203 "
                + "| 0 3 0 2 0 0 3 0 0 0 0 0 0 0 0 0 0 0 0 0 0 h 0 | 0 3 0 2 0 0 3 0 0 0 0 0 0 0 0 0 0 0 0 0 0 h 0 | 0 "
                + "3 0 2 0 0 3 0 0 0 0 0 0 0 0 0 0 0 0 0 0 h 0");
        text(true, "start: {} mov r8, L7; mov r7, r8; jmp L3 [int] [code [q6] {r7: int, r2: q6, r5: q6}]; L3: [q1 q2] {r"
            + "7: code [q4 q5] {r3: int}} malloc r2 <q2, code {}>; mov r1, 4; halt; L7: [q4 q5] {r3: int} mov r3, r"
            + "3; mov r8, L7; mov r7, r8; jmp L3 [int] [some q8 . q8];",
            new int[] {12, 20000, 2000, 6, 200, 300},
            "0 -1 2 [b839200000a320000000a120000000a31c000000e90000000089f881c70800000039f70f8733000000a308000000"
                + "b804000000a304000000f4a10c000000a30c000000b839200000a320000000a120000000a31c000000e9bdffffffcd01]94 "
                + "8192 8217 8249 | 0 4 2 6 0 1 4 65536 0 0 0 0 8249 8249 0 0 0 0 0 0 0 h 0 0 0 | 0 4 2 6 0 1 4 65536 0"
                + " 0 0 0 8249 8249 0 0 0 0 0 0 0 h 0 0 0 | 0 4 2 6 0 1 4 65536 0 0 0 0 8249 8249 0 0 0 0 0 0 0 h 0 0 0");
        text(true, "start: {} malloc r7 <>; malloc r5 <int>; malloc r8 <int, <int>>; mov r9, 1; st r8(0), r9; mov r5, r8"
            + "; mov r1, 4; halt; L1: {r1: int} jmp start; L4: [q2 q3] {r6: int, r1: <<q2>, int, <q2?>>, r7: int} l"
            + "d r6, r1(0); st r1(0), r6; bnz r7, start; ld r4, r6(0); st r1(0), r6; mov r8, r7; mov r6, r8; jmp L4"
            + " [q2] [q2];",
            new int[] {10, 20000, 2000, 1, 200, 300},
            "0 -1 2 [89f881c70000000039f70f87d1000000a31c00000089f881c70400000039f70f87bc000000a31400000089f881c7"
                + "0800000039f70f87a7000000a320000000b801000000a324000000a1240000008b0d20000000898100000000a120000000a3"
                + "14000000b804000000a304000000f4e98cffffffa1040000008b8000000000a318000000a1180000008b0d04000000898100"
                + "000000a11c00000085c00f8405000000e959ffffffa1180000008b8000000000a310000000a1180000008b0d040000008981"
                + "00000000a11c000000a320000000a120000000a318000000e993ffffffcd01]227 8192 8303 8308 | 0 4 3 8 0 0 4 0 "
                + "0 0 65540 0 65536 65540 1 0 0 0 0 0 0 h 0 1 0 0 | 2 0 1 2 0 0 0 0 0 0 65536 0 65536 0 0 0 0 0 0 0 0 "
                + "h 0 0 | 0 4 3 8 0 0 4 0 0 0 65540 0 65536 65540 1 0 0 0 0 0 0 h 0 1 0 0");
    }

    private static void group14() {
        text(true, "start: {} malloc r4 <code [q4] {r4: int, r5: int}, <int, int, int?>>; mov r7, 5; mov r1, 4; halt; L2"
            + ": [q1] {r2: <<int, int>, <int>>, r6: some q3 . int, r7: <code {r7: int}?>} mov r7, L6; mov r8, 0; mo"
            + "v r6, r8; jmp L6 [<q1, q1?>]; L6: [q5] {r6: int} mul r6, r6, r6; jmp L6 [int];",
            new int[] {3, 20000, 2000, 17, 200, 300},
            "0 -1 2 [89f881c70800000039f70f8753000000a310000000b805000000a31c000000b804000000a304000000f4b84d2000"
                + "00a31c000000b800000000a320000000a120000000a318000000e900000000a1180000000faf0518000000a318000000e9ea"
                + "ffffffcd01]101 8192 8234 8269 | 1 0 2 3 0 0 4 0 0 65536 0 0 5 0 0 0 0 0 0 0 0 h 0 0 0 | 0 4 2 4 0 0 "
                + "4 0 0 65536 0 0 5 0 0 0 0 0 0 0 0 h 0 0 0 | 0 4 2 4 0 0 4 0 0 65536 0 0 5 0 0 0 0 0 0 0 0 h 0 0 0");
        text(true, "start : { } malloc r3 < < int , int , int > , < int ? , int , int ? > > ; mov r1 , 4 ; halt ; L2 : ["
            + " q1 ] { r2 : < int ? > } mov r4 , 1 ; mov r4 , r4 ; jmp L2 [ some q8 . int ] ; L4 : [ q3 ] { r1 : < "
            + "< q3 ? , int , int ? > , code { } , some q7 . int > , r7 : < some q5 . int , int ? , code { } ? > , "
            + "r6 : some q6 . int } jmp start ;",
            new int[] {4, 20000, 2000, 24, 200, 300},
            "0 -1 2 [89f881c70800000039f70f872e000000a30c000000b804000000a304000000f4b801000000a310000000a1100000"
                + "00a310000000e9e7ffffffe9c2ffffffcd01]64 8192 8224 8249 | 0 4 2 3 0 0 4 0 65536 0 0 0 0 0 0 0 0 0 0 0"
                + " 0 h 0 0 0 | 0 4 2 3 0 0 4 0 65536 0 0 0 0 0 0 0 0 0 0 0 0 h 0 0 0 | 0 4 2 3 0 0 4 0 65536 0 0 0 0 0"
                + " 0 0 0 0 0 0 0 h 0 0 0");
        text(true, "start: {} mov r1, 4; halt; L3: [q1 q2] {r1: some q4 . int} malloc r3 <code {r7: q2}>; malloc r6 <>; "
            + "jmp start; L5: {r7: some q6 . <q6?, q6?, q6>} unpack k7, r2, r7; jmp L5;",
            new int[] {2, 20000, 2000, 6, 200, 300},
            "0 -1 2 [b804000000a304000000f489f881c70400000039f70f872e000000a30c00000089f881c70000000039f70f871900"
                + "0000a318000000e9c6ffffffa11c000000a308000000e9f1ffffffcd01]75 8192 8203 8250 | 0 4 0 2 0 0 4 0 0 0 0"
                + " 0 0 0 0 0 0 0 0 0 0 h 0 | 0 4 0 2 0 0 4 0 0 0 0 0 0 0 0 0 0 0 0 0 0 h 0 | 0 4 0 2 0 0 4 0 0 0 0 0 0"
                + " 0 0 0 0 0 0 0 0 h 0");
        text(true, "start: {} malloc r7 <code [q2] {}>; mov r1, 4; halt; L1: {} malloc r5 <some q3 . int>; malloc r8 <<i"
            + "nt, int, int>>; malloc r9 <int, int, int>; mov r10, 5; st r9(0), r10; mov r10, 1; st r9(1), r10; mov"
            + " r10, 0; st r9(2), r10; mov r10, r9; st r8(0), r10; mov r5, r8; jmp start;",
            new int[] {3, 20000, 2000, 8, 200, 300},
            "0 -1 2 [89f881c70400000039f70f87ca000000a31c000000b804000000a304000000f489f881c70400000039f70f87aa00"
                + "0000a31400000089f881c70400000039f70f8795000000a32000000089f881c70c00000039f70f8780000000a324000000b8"
                + "05000000a328000000a1280000008b0d24000000898100000000b801000000a328000000a1280000008b0d24000000898104"
                + "000000b800000000a328000000a1280000008b0d24000000898108000000a124000000a328000000a1280000008b0d200000"
                + "00898100000000a120000000a314000000e926ffffffcd01]220 8192 8224 | 0 4 1 3 0 0 4 0 0 0 0 0 65536 0 0 0"
                + " 0 0 0 0 0 h 0 0 | 0 4 1 3 0 0 4 0 0 0 0 0 65536 0 0 0 0 0 0 0 0 h 0 0 | 0 4 1 3 0 0 4 0 0 0 0 0 655"
                + "36 0 0 0 0 0 0 0 0 h 0 0");
        text(true, "start: {} malloc r3 <int, int>; mov r1, 4; halt; L2: [q1] {} malloc r7 <>; jmp L2 [q1];",
            new int[] {1, 20000, 2000, 21, 200, 300},
            "0 -1 2 [89f881c70800000039f70f872a000000a30c000000b804000000a304000000f489f881c70000000039f70f870a00"
                + "0000a31c000000e9e6ffffffcd01]60 8192 8224 | 1 0 2 1 0 0 0 0 65536 0 0 0 0 0 0 0 0 0 0 0 0 h 0 0 0 | "
                + "0 4 2 3 0 0 4 0 65536 0 0 0 0 0 0 0 0 0 0 0 0 h 0 0 0 | 0 4 2 3 0 0 4 0 65536 0 0 0 0 0 0 0 0 0 0 0 "
                + "0 h 0 0 0");
        text(true, "start: {} malloc r8 <<>, <int?>, int>; malloc r9 <int>; mov r10, r9; st r8(1), r10; mov r10, -3; st "
            + "r8(2), r10; mov r1, r8; mov r1, 4; halt;",
            new int[] {2, 20000, 2000, 14, 200, 300},
            "0 -1 2 [89f881c70c00000039f70f8765000000a32000000089f881c70400000039f70f8750000000a324000000a1240000"
                + "00a328000000a1280000008b0d20000000898104000000b8fdffffffa328000000a1280000008b0d20000000898108000000"
                + "a120000000a304000000b804000000a304000000f4cd01]119 8192 | 1 0 4 2 0 0 0 0 0 0 0 0 0 65536 65548 0 0 "
                + "0 0 0 0 h 0 0 0 0 0 | 0 4 4 9 0 0 4 0 0 0 0 0 0 65536 65548 -3 0 0 0 0 0 h 0 65548 -3 0 0 | 0 4 4 9 "
                + "0 0 4 0 0 0 0 0 0 65536 65548 -3 0 0 0 0 0 h 0 65548 -3 0 0");
        text(true, "start: {} malloc r2 <int, some q8 . int, int>; malloc r8 <int, some q8 . int, int>; mov r9, r8; mov "
            + "r6, r9; jmp L3 [<int?, some q8 . int?, int?>] [<int?, some q8 . int?, int?>]; L3: [q1 q2] {r6: q2} m"
            + "alloc r7 <>; mov r1, 4; halt; L6: [q4 q5] {r2: code {r6: code {r3: q5, r4: q4}, r1: <int>, r5: q4}} "
            + "malloc r4 <int, int>; jmp start; L7: {} jmp start;",
            new int[] {2, 20000, 2000, 11, 200, 300},
            "0 -1 2 [89f881c70c00000039f70f8772000000a30800000089f881c70c00000039f70f875d000000a320000000a1200000"
                + "00a324000000a124000000a318000000e90000000089f881c70000000039f70f872f000000a31c000000b804000000a30400"
                + "0000f489f881c70800000039f70f870f000000a310000000e983ffffffe97effffffcd01]132 8192 8259 8291 8317 | 1"
                + " 0 6 2 0 0 0 65536 0 0 0 0 0 65548 0 0 0 0 0 0 0 h 0 0 0 0 0 0 0 | 0 4 6 8 0 1 4 65536 0 0 0 65548 6"
                + "5560 65548 65548 0 0 0 0 0 0 h 0 0 0 0 0 0 0 | 0 4 6 8 0 1 4 65536 0 0 0 65548 65560 65548 65548 0 0"
                + " 0 0 0 0 h 0 0 0 0 0 0 0");
        text(true, "start: {} malloc r1 <some q1 . q1, <int>>; mov r1, 4; halt;",
            new int[] {1, 20000, 2000, 2, 200, 300},
            "0 -1 2 [89f881c70800000039f70f8710000000a304000000b804000000a304000000f4cd01]34 8192 | 1 0 2 1 0 0 6"
                + "5536 0 0 0 0 0 0 0 0 0 0 0 0 0 0 h 0 0 0 | 0 4 2 3 0 0 4 0 0 0 0 0 0 0 0 0 0 0 0 0 0 h 0 0 0 | 0 4 2"
                + " 3 0 0 4 0 0 0 0 0 0 0 0 0 0 0 0 0 0 h 0 0 0");
        text(true, "q2 : { } malloc r7 < int , some q6 . int > ; mov r5 , 2147483647 ; jmp L1 ; L1 : { } malloc r4 < > ;"
            + " mov r1 , 4 ; halt ; L3 : [ q2 ] { r4 : q2 , r3 : code [ q4 q5 ] { r4 : code { } , r5 : int , r1 : <"
            + " int ? , int > } , r7 : < < int , q2 > ? , < q2 , q2 > ? > } malloc r8 < > ; mov r4 , r8 ; jmp L1 ;",
            new int[] {1, 20000, 2000, 30, 200, 300},
            "0 -1 2 [89f881c70800000039f70f8758000000a31c000000b8ffffff7fa314000000e90000000089f881c70000000039f7"
                + "0f8734000000a310000000b804000000a304000000f489f881c70000000039f70f8714000000a320000000a120000000a310"
                + "000000e9bcffffffcd01]106 8192 8228 8260 | 1 0 2 1 0 0 0 0 0 0 0 0 65536 0 0 0 0 0 0 0 0 h 0 0 0 | 0 "
                + "4 2 6 0 1 4 0 0 65544 2147483647 0 65536 0 0 0 0 0 0 0 0 h 0 0 0 | 0 4 2 6 0 1 4 0 0 65544 214748364"
                + "7 0 65536 0 0 0 0 0 0 0 0 h 0 0 0");
        text(true, "start: {} mov r7, 0; malloc r7 <code {r7: int, r2: int}, <int, int>, int>; mov r5, 0; bnz r5, start;"
            + " malloc r8 <>; mov r3, r8; malloc r3 <<int, int>, <int>>; mov r8, r5; mov r2, r8; jmp L2 [<<int, int"
            + ">?, <int>?>]; L2: [q1] {r2: int, r5: int} malloc r6 <int, q1, <>>; mov r1, 4; halt;",
            new int[] {9, 20000, 2000, 18, 200, 300},
            "0 -1 2 [b800000000a31c00000089f881c70c00000039f70f878e000000a31c000000b800000000a314000000a114000000"
                + "85c00f8405000000e9c5ffffff89f881c70000000039f70f875d000000a320000000a120000000a30c00000089f881c70800"
                + "000039f70f873e000000a30c000000a114000000a320000000a120000000a308000000e90000000089f881c70c00000039f7"
                + "0f8710000000a318000000b804000000a304000000f4cd01]170 8192 8328 | 1 0 5 9 0 0 0 0 65548 0 0 0 65536 0"
                + " 0 0 0 0 0 0 0 h 0 0 0 0 0 0 | 0 4 8 13 0 1 4 0 65548 0 0 65556 65536 0 0 0 0 0 0 0 0 h 0 0 0 0 0 0 "
                + "0 0 0 | 0 4 8 13 0 1 4 0 65548 0 0 65556 65536 0 0 0 0 0 0 0 0 h 0 0 0 0 0 0 0 0 0");
    }

    private static void group15() {
        text(true, "start: {} malloc r2 <<int, int, int>, <int, int>>; mov r2, pack [some q2 . int, pack [int, 0] as som"
            + "e q2 . int] as some q1 . q1; malloc r4 <int, int, code [q3 q4] {r4: int, r6: int, r7: q3}>; malloc r"
            + "4 <some q5 . int, int, int>; mov r1, 4; halt;",
            new int[] {3, 20000, 2000, 24, 200, 300},
            "0 -1 2 [89f881c70800000039f70f8744000000a308000000b800000000a30800000089f881c70c00000039f70f87250000"
                + "00a31000000089f881c70c00000039f70f8710000000a310000000b804000000a304000000f4cd01]86 8192 | 1 0 5 3 0"
                + " 0 0 0 0 65544 0 0 0 0 0 0 0 0 0 0 0 h 0 0 0 0 0 0 | 0 4 8 6 0 0 4 0 0 65556 0 0 0 0 0 0 0 0 0 0 0 h"
                + " 0 0 0 0 0 0 0 0 0 | 0 4 8 6 0 0 4 0 0 65556 0 0 0 0 0 0 0 0 0 0 0 h 0 0 0 0 0 0 0 0 0");
        text(true, "start: {} mov r8, 0; mov r9, r8; mov r10, r9; mov r5, r8; mov r2, r9; mov r1, r10; jmp L2 [int]; L2:"
            + " [q1] {r5: int, r2: q1, r1: int} bnz r1, start; mov r7, pack [int, 2147483647] as some q6 . int; mov"
            + " r8, r2; mov r3, r8; jmp L4 [q1]; L4: [q3] {r3: q3} malloc r3 <some q7 . q7, <int>>; mov r1, 4; halt"
            + ";",
            new int[] {12, 20000, 2000, 0, 200, 300},
            "0 -1 2 [b800000000a320000000a120000000a324000000a124000000a328000000a120000000a314000000a124000000a3"
                + "08000000a128000000a304000000e900000000a10400000085c00f8405000000e9adffffffb8ffffff7fa31c000000a10800"
                + "0000a320000000a120000000a30c000000e90000000089f881c70800000039f70f8710000000a30c000000b804000000a304"
                + "000000f4cd01]152 8192 8257 8310 | 1 0 0 12 0 2 0 0 0 0 0 0 2147483647 0 0 0 0 0 0 0 0 h 0 | 2 0 0 12"
                + " 0 2 0 0 0 0 0 0 2147483647 0 0 0 0 0 0 0 0 h 0 | 0 4 2 15 0 2 4 0 65536 0 0 0 2147483647 0 0 0 0 0 "
                + "0 0 0 h 0 0 0");
    }
}
