import java.util.LinkedHashMap;
import java.util.Map;
import java.util.function.Supplier;
import java.util.function.ToIntFunction;

/** "A call that is refused changes nothing": in every state every such call, and what is answered behind it. */
public final class RefusedCalls {
    private static final String PROGRAM = "(fix f(n:int):int.if0(n,5,f(n-1)))3";
    private static final String BLOCKS = "s:{}malloc r2<int,int>;mov r1,-6;st r2(1),r1;jmp l;l:{r1:int}halt;";

    public static void main(String[] args) {
        Map<String, Supplier<TypedDescent>> states = states();
        for (Map.Entry<String, Supplier<TypedDescent>> state : states.entrySet()) {
            for (Map.Entry<String, ToIntFunction<TypedDescent>> call : calls(state.getValue().get()).entrySet()) {
                compare(call.getKey() + " of " + state.getKey(), state.getValue(), call.getValue());
            }
        }
        Check.due("states", states.size(), 20);
        Check.end();
    }

    private static Map<String, Supplier<TypedDescent>> states() {
        Map<String, Supplier<TypedDescent>> states = new LinkedHashMap<>();
        states.put("a new object", TypedDescent::new);
        states.put("a fed tape", () -> fed(new TypedDescent(), "1+(1-1)"));
        states.put("a full tape", () -> filled(new TypedDescent()));
        states.put("a program", () -> program(PROGRAM));
        states.put("a program that ended", () -> ran(program(PROGRAM), 20, 20));
        states.put("a program without fuel", () -> ran(program(PROGRAM), 2, 20));
        states.put("a program that is OUT", () -> ran(program(PROGRAM), 20, 7));
        states.put("a program that is no int", () -> program("<1,typ a.fun x:a.x>"));
        states.put("SYNTAX of a program", () -> program("1+)"));
        states.put("ROOM of a program", () -> program("#9 1"));
        states.put("LARGE of a program", () -> program(Check.valueOfParts(81)));
        states.put("a fault behind a run", () -> read(ran(program(PROGRAM), 20, 20), "x"));
        states.put("a program that ended and a fed tape", () -> fed(ran(program(PROGRAM), 20, 20), "2*3"));
        states.put("blocks", () -> blocks(BLOCKS));
        states.put("blocks that ended", () -> ran(blocks(BLOCKS), 20, 20));
        states.put("blocks without fuel", () -> ran(blocks(BLOCKS), 3, 20));
        states.put("blocks that are OUT", () -> ran(blocks(BLOCKS), 20, 1));
        states.put("a fault of blocks", () -> blocks("s:{}jmp l;"));
        states.put("blocks that ended and a fed tape", () -> fed(ran(blocks(BLOCKS), 20, 20), "2*3"));
        states.put("blocks that ended and a full tape", () -> filled(ran(blocks(BLOCKS), 20, 20)));
        return states;
    }

    private static TypedDescent fed(TypedDescent x, String text) {
        Check.feed(x, Check.bytes(text));
        return x;
    }

    private static TypedDescent filled(TypedDescent x) {
        return fed(x, "4+5%" + "x".repeat(5996));
    }

    private static TypedDescent read(TypedDescent x, String text) {
        Check.program(x, text);
        return x;
    }

    private static TypedDescent program(String text) {
        return read(new TypedDescent(), text);
    }

    private static TypedDescent blocks(String text) {
        TypedDescent x = new TypedDescent();
        Check.blocks(x, text);
        return x;
    }

    private static TypedDescent ran(TypedDescent x, int fuel, int heap) {
        x.run(fuel, heap);
        return x;
    }

    /** The calls that are refused in this state, and those that only ask. */
    private static Map<String, ToIntFunction<TypedDescent>> calls(TypedDescent state) {
        Map<String, ToIntFunction<TypedDescent>> calls = new LinkedHashMap<>();
        int taped = state.count(5);
        for (int n : new int[] {-1, Integer.MIN_VALUE, taped + 1, taped + 20, 6001, Integer.MAX_VALUE}) {
            calls.put("program(" + n + ")", x -> x.program(n));
            calls.put("blocks(" + n + ")", x -> x.blocks(n));
        }
        int[][] wrong = {{-1, 20}, {20, -1}, {20001, 20}, {20, 20001}, {-1, -1}, {20001, 20001},
            {Integer.MIN_VALUE, 0}, {0, Integer.MAX_VALUE}};
        for (int[] of : wrong) {
            calls.put("run(" + of[0] + ", " + of[1] + ")", x -> x.run(of[0], of[1]));
        }
        if (state.count(4) == 0 || state.count(4) == 1 && state.kind(0) != 'i') {
            calls.put("run(20, 20)", x -> x.run(20, 20));
            calls.put("run(0, 0)", x -> x.run(0, 0));
        }
        if (taped > 5980) {
            calls.put("feed", x -> x.feed(1, 2, 3, 4, 5) ? 0 : -1);
        }
        for (int i : new int[] {-1, 1000, Integer.MIN_VALUE, Integer.MAX_VALUE}) {
            calls.put("kind(" + i + ")", x -> x.kind(i));
            calls.put("code(" + i + ")", x -> x.code(i));
            calls.put("label(" + i + ")", x -> x.label(i));
            calls.put("count(" + i + ")", x -> x.count(i));
            calls.put("register(" + i + ")", x -> x.register(i) - 1);
            calls.put("heap(" + i + ")", x -> x.heap(i) - 1);
        }
        return calls;
    }

    /** The object with the call answers, from then on, as one without it. */
    private static void compare(String what, Supplier<TypedDescent> state, ToIntFunction<TypedDescent> call) {
        TypedDescent with = state.get();
        TypedDescent without = state.get();
        Check.due(what, call.applyAsInt(with), -1);
        Check.due("all behind " + what, all(with), all(without));
        Check.due("a run behind " + what, with.run(30, 30), without.run(30, 30));
        Check.due("it, behind " + what, all(with), all(without));
        Check.due("feed behind " + what, fedMore(with), fedMore(without));
        Check.due("a program behind " + what, with.program(with.count(5)), without.program(without.count(5)));
        Check.due("it, behind " + what, all(with), all(without));
    }

    private static int fedMore(TypedDescent x) {
        return x.feed(0x2b312020, 0x20202020, 0x20202020, 0x20202020, 0x20202020) ? 1 : 0;
    }

    /** What there is to be asked of an object, in some 50 calls. */
    private static String all(TypedDescent x) {
        StringBuilder all = new StringBuilder();
        all.append(x.place()).append(' ').append(x.value()).append(" count");
        for (int what = -1; what <= 7; what++) {
            all.append(' ').append(x.count(what));
        }
        all.append(" kind");
        for (int i = 0; i < 5; i++) {
            all.append(' ').append(x.kind(i));
        }
        all.append(" code");
        for (int address = 8191; address < 8200; address++) {
            all.append(' ').append(x.code(address));
        }
        all.append(" label");
        for (int k = 0; k < 3; k++) {
            all.append(' ').append(x.label(k));
        }
        all.append(" register");
        for (int k = 0; k <= 3; k++) {
            all.append(' ').append(x.register(k));
        }
        all.append(" heap");
        for (int k = 0; k < 3; k++) {
            all.append(' ').append(x.heap(k));
        }
        return all.toString();
    }
}
