/** Promise 6: the kind of a program, written. */
public final class KindWriting {
    public static void main(String[] args) {
        written("1", "int");
        written("<>", "<>");
        written("<1, <2>, fun x : int . x>", "<int,<int>,int->int>");
        written("fun x : (int -> int) . fun y : int . x y", "(int->int)->int->int");
        written("fun x : (all a . a) . 1", "(all a.a)->int");
        written("fun x : int . typ q . fun y : q . <x>", "int->all a.a-><int>");
        written("fun x : <int -> int, all z . z> . x", "<int->int,all a.a>-><int->int,all a.a>");
        written("typ z . typ y . fun f : z -> y . fun x : z . f x", "all a.all b.(a->b)->a->b");
        written("typ b . fun x : (all a . a -> b) . x [b]", "all a.(all b.b->a)->a->a");
        written("<typ q . 1, typ p . typ q . 2>", "<all a.int,all a.all b.int>");
        written("typ a . fun x : a . typ a . fun y : a . <x, y>", "all a.a->all b.b-><a,b>");
        written("(typ a . fun x : a . typ b . fun y : b . x) [all c . c -> c]",
            "(all a.a->a)->all a.a->all b.b->b");
        manyNames();
        edges();
        Check.end();
    }

    private static void written(String text, String kind) {
        TypedDescent x = new TypedDescent();
        Check.due("fault of " + text, Check.program(x, text), 0);
        Check.due("kind of " + text, Check.kind(x), kind);
        Check.due("behind it", x.kind(kind.length()), -1);
    }

    /** At most twenty are open, so let takes alls from one to the next. */
    private static void manyNames() {
        String typs = Check.repeated("typ q . ", 15);
        String text = "let x = " + typs + "fun y : q . y in let x = " + typs + "x in " + typs + "x";
        TypedDescent x = new TypedDescent();
        Check.due("fault", Check.program(x, text), 0);
        StringBuilder kind = new StringBuilder();
        for (int i = 0; i < 45; i++) {
            kind.append("all ").append((char) ('a' + i % 26)).append(i < 26 ? "" : "1").append('.');
        }
        Check.due("kind", Check.kind(x), kind + "s1->s1");
        TypedDescent y = new TypedDescent();
        Check.due("fault", Check.program(y, "let x = " + typs + "1 in let x = " + typs
            + "x in let x = " + typs + "x in " + typs + "fun z : q . x"), 0);
        String last = Check.kind(y);
        Check.due("the 15th name and those behind", last.substring(84, 104), "all o.o->all p.all q");
        Check.due("names with 2", last.indexOf("all z1.all a2.all b2.") > 0 ? 1 : 0, 1);
    }

    private static void edges() {
        TypedDescent x = new TypedDescent();
        Check.due("none", x.kind(0), -1);
        Check.program(x, "1");
        Check.due("below", x.kind(-1), -1);
        Check.due("least", x.kind(Integer.MIN_VALUE), -1);
        Check.due("most", x.kind(Integer.MAX_VALUE), -1);
        Check.due("i", x.kind(0), 'i');
        Check.due("no matter how often", x.kind(2), 't');
        Check.blocks(x, "a: {} mov r1, 1; halt;");
        Check.due("blocks have none", x.kind(0), -1);
        Check.program(x, "x");
        Check.due("a fault has none", x.kind(0), -1);
    }
}
