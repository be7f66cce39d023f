/** Promise 6 at its boundaries: names behind z, as few brackets and blanks as can be, bytes that are none. */
public final class KindEdges {
    public static void main(String[] args) {
        names();
        namesAgain();
        brackets();
        blanks();
        bytes();
        largest();
        Check.end();
    }

    private static String nameAt(int around) {
        return (char) ('a' + around % 26) + (around < 26 ? "" : String.valueOf(around / 26));
    }

    /** A value whose kind has so many alls ahead: at most twenty are open, so let takes them from one to the next. */
    private static String alls(int n, String behind) {
        StringBuilder text = new StringBuilder();
        int left = n;
        String inner = behind;
        while (left > 15) {
            text.append("let v=").append("typ q.".repeat(15)).append(inner).append(" in ");
            inner = "v";
            left -= 15;
        }
        return text.append("typ q.".repeat(left)).append(inner).toString();
    }

    /** "the names behind all being a, b, .., z by how many are around them (then a1, b1, ..)". */
    private static void names() {
        for (int n : new int[] {1, 2, 25, 26, 27, 28, 51, 52, 53, 54, 78, 79}) {
            StringBuilder due = new StringBuilder();
            for (int i = 0; i < n; i++) {
                due.append("all ").append(nameAt(i)).append('.');
            }
            written(alls(n, "1"), due + "int");
        }
        Check.due("the 26th", nameAt(25), "z");
        Check.due("the 27th", nameAt(26), "a1");
        Check.due("the 52nd", nameAt(51), "z1");
        Check.due("the 53rd", nameAt(52), "a2");
        String tooLarge = alls(80, "1");
        TypedDescent x = new TypedDescent();
        Check.due("one part more", Check.program(x, tooLarge), 5);
        Check.due("no kind", x.kind(0), -1);
    }

    /** By how many are around: siblings have the same name, and one that is used is the one that is meant. */
    private static void namesAgain() {
        written("<typ q.1,typ q.1,typ q.typ q.1>", "<all a.int,all a.int,all a.all b.int>");
        written("typ x.fun y:x.typ x.fun z:x.<y,z>", "all a.a->all b.b-><a,b>");
        written("typ x.<typ y.fun v:x.v,typ z.fun v:z.v>", "all a.<all b.a->a,all b.b->b>");
        written("fun f:(all b.b->b)->all c.c.1", "((all a.a->a)->all a.a)->int");
        written("typ b.(typ a.typ c.fun x:<a,c>.x)[b->b]", "all a.all b.<a->a,b>-><a->a,b>");
        written("(typ a.fun x:a.1)[all z.z]", "(all a.a)->int");
        written("(typ a.typ b.fun x:<a,b>.1)[all b.b]", "all a.<all b.b,a>->int");
    }

    /** "with as few brackets .. as can be". */
    private static void brackets() {
        written("fun x:((int)).((1))", "int->int");
        written("fun x:(int->int).1", "(int->int)->int");
        written("fun x:int->int.1", "(int->int)->int");
        written("fun x:int.fun y:(int).1", "int->int->int");
        written("fun x:int->(int->int).1", "(int->int->int)->int");
        written("fun x:((int->int)->int)->int.1", "(((int->int)->int)->int)->int");
        written("fun x:(all a.(a)).1", "(all a.a)->int");
        written("fun x:int.typ a.1", "int->all a.int");
        written("fun x:int->(all a.a).1", "(int->all a.a)->int");
        written("typ a.fun x:(a->(a)).1", "all a.(a->a)->int");
        written("fun x:<(int),(int->int),(all a.(a->a)),(<>)>.1", "<int,int->int,all a.a->a,<>>->int");
        written("fun x:(<int>).1", "<int>->int");
        written("fun x:<>.x", "<>-><>");
    }

    /** "a blank behind all and around nothing else". */
    private static void blanks() {
        written(" fun x : < int , int -> int > . typ a . x ", "<int,int->int>->all a.<int,int->int>");
        written("typ\na\n.\ntyp\nb\n.1", "all a.all b.int");
    }

    private static void bytes() {
        TypedDescent x = new TypedDescent();
        int[] none = {-1, 3, 4, 100, 4096, Integer.MIN_VALUE, Integer.MAX_VALUE};
        for (int i : none) {
            Check.due("nothing is loaded", x.kind(i), -1);
        }
        Check.due("fault", Check.program(x, "1"), 0);
        for (int i : none) {
            Check.due("kind(" + i + ")", x.kind(i), -1);
        }
        Check.due("the last", x.kind(2), 't');
        // a longer one that was there before is gone
        Check.due("fault", Check.program(x, "<1,1,1>"), 0);
        Check.due("the last", x.kind(12), '>');
        Check.due("behind", x.kind(13), -1);
        Check.due("fault", Check.program(x, "<>"), 0);
        Check.due("the last", x.kind(1), '>');
        Check.due("behind", x.kind(2), -1);
        Check.due("a run leaves it", x.run(1, 1), -1);
        Check.due("the last", x.kind(1), '>');
        Check.due("a fault", Check.program(x, "<x>"), 3);
        Check.due("none", x.kind(0), -1);
    }

    private static void largest() {
        StringBuilder due = new StringBuilder();
        written(Check.valueOfParts(80), Check.kindOfParts(80));
        written("fun x:" + Check.kindOfParts(78) + ".1", Check.kindOfParts(78) + "->int");
        // sixteen names around those that are meant
        String kind = "<q,q,q,q,q,q,q,q>";
        for (int i = 0; i < 16; i++) {
            due.append("all ").append(nameAt(i)).append('.');
        }
        String names = kind.replace('q', 'p');
        written("typ q.".repeat(16) + "fun x:<" + kind + "," + kind + ">.#1 x",
            due + "<" + names + "," + names + ">->" + names);
    }

    private static void written(String text, String kind) {
        TypedDescent x = new TypedDescent();
        Check.due("fault of " + text, Check.program(x, text), 0);
        Check.due("kind of " + text, Check.kind(x), kind);
        Check.due("behind that of " + text, x.kind(kind.length()), -1);
    }
}
