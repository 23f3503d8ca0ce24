import java.lang.reflect.Method;
import java.util.ArrayList;
import java.util.Arrays;
import java.util.HashMap;
import java.util.List;
import java.util.Map;

/**
 * A run of calls on a new object, told as texts like "ask(3)", beside a twin that hears of all
 * calls but the refused ones: what the two answer behind them must not differ.
 */
final class Run {
    /** What an object answers behind this many calls is free. */
    static final int MOST_CALLS = 512;
    private static final Map<String, Method> FACE = face();

    private final Check check;
    private final String name;
    private final GaugeWall wall = new GaugeWall();
    private final GaugeWall twin = new GaugeWall();
    private int calls;
    private boolean hasReadAlone;

    Run(Check check, String name) {
        this.check = check;
        this.name = name;
    }

    Run(Check check, String name, String text) {
        this(check, name);
        text(text);
    }

    /** A run whose wall has something of everything that a refused call might change. */
    static Run busy(Check check, String name) {
        return new Run(check, name, "let l=s0+s1;let m=l*2-s2;" + Check.sized("a", 5, 2, 2, 2, "l*2")
            + Check.sized("b", 4, 1, 1, 2, "m+s3") + Check.sized("c", 6, 3, 3, 1, "s4"))
            .calls("cost(0, 3)", "cost(4, 2)", "budget(20)", "value(0, 0, 10)", "value(1, 0, 7)", "value(1, 3, 9)",
                "value(4, 1, 5)", "value(4, 4, 6)", "down(2, 4, 6)", "ask(3)", "look(0)", "tick()", "ask(16)",
                "look(2)", "look(2)", "plan(7, 5)", "fix(1, 1, 3)", "lay(6)");
    }

    /** The text is on the tape, and not read. */
    Run tape(String text) {
        feed(text, true);
        return this;
    }

    /** The text is read, and has no fault. */
    Run text(String text) {
        return tape(text).due("read()", 0).due("place()", GaugeWall.NONE);
    }

    /** The text is read, has a fault, and is refused. */
    Run fault(String text, int fault, int place) {
        feed(text, false);
        refused("read()", fault);
        refused("place()", place);
        hasReadAlone = true;
        return this;
    }

    /** Calls whose answers do not matter here. */
    Run calls(String... several) {
        for (String call : several) {
            count();
            answer(wall, call);
            answer(twin, call);
        }
        return this;
    }

    Run repeat(int times, String call) {
        for (int n = 0; n < times; n++) {
            calls(call);
        }
        return this;
    }

    Run due(String call, long want) {
        count();
        check.due(name + ": " + call, answer(wall, call), want);
        check.due(name + ": the twin's " + call, answer(twin, call), want);
        return this;
    }

    Run due(String call, boolean want) {
        return due(call, want ? 1 : 0);
    }

    /** A call that changes nothing, as the twin, which does not hear of it, shows. */
    Run refused(String call, long want) {
        count();
        check.due(name + ": " + call, answer(wall, call), want);
        return this;
    }

    Run refused(String call, boolean want) {
        return refused(call, want ? 1 : 0);
    }

    /** Asks both for all that can be asked, then has both go on, as far as calls are left. */
    void end() {
        int boxes = howMany("count(0)");
        compareAll(questions(boxes, howMany("count(1)"), howMany("count(2)")));
        compareAll(goingOn(boxes));
    }

    private int howMany(String call) {
        count();
        answer(wall, call);
        return (int) answer(twin, call);
    }

    private void compareAll(List<String> several) {
        for (String call : several) {
            if (calls < MOST_CALLS) {
                count();
                check.due(name + ": behind it " + call, answer(wall, call), answer(twin, call));
            }
        }
    }

    private List<String> questions(int boxes, int lets, int now) {
        List<String> calls = new ArrayList<>();
        addAll(calls, "count(#)", 10);
        addAll(calls, "planned(#)", 10);
        calls.add("left()");
        if (!hasReadAlone) {
            calls.add("place()");
        }
        addAll(calls, "let(#)", lets);
        for (int k = 0; k < boxes; k++) {
            addAll(calls, "box(" + k + ", #)", 11);
            addAll(calls, "at(" + k + ", #)", 2);
            calls.add("shows(" + k + ")");
            calls.add("showed(" + k + ", " + now / 2 + ")");
            calls.add("aged(" + k + ", " + now / 2 + ")");
        }
        return calls;
    }

    /** What can't be asked shows in what comes: fixed places, costs, downs, values, the tape. */
    private List<String> goingOn(int boxes) {
        List<String> calls = new ArrayList<>();
        calls.add("lay(8)");
        for (int k = 0; k < boxes; k++) {
            addAll(calls, "at(" + k + ", #)", 2);
        }
        calls.add("follow()");
        calls.add("plan(" + ((1 << Math.min(boxes, 4)) - 1) + ", 6)");
        addAll(calls, "planned(#)", 6);
        for (int n = 0; n < 6; n++) {
            calls.add("ask(63)");
            calls.add("count(4)");
            addAll(calls, "shows(#)", boxes);
            calls.add("tick()");
        }
        calls.addAll(List.of("read()", "place()", "count(0)", "count(1)", "let(0)"));
        return calls;
    }

    private static void addAll(List<String> calls, String call, int number) {
        for (int n = 0; n < number; n++) {
            calls.add(call.replace("#", "" + n));
        }
    }

    private void feed(String text, boolean both) {
        calls += Check.feed(wall, text);
        if (both) {
            Check.feed(twin, text);
        }
        demandRoom();
    }

    private void count() {
        calls++;
        demandRoom();
    }

    private void demandRoom() {
        if (calls > MOST_CALLS) {
            throw new IllegalStateException(name + ": more than " + MOST_CALLS + " calls");
        }
    }

    private static Map<String, Method> face() {
        Map<String, Method> methods = new HashMap<>();
        for (Method method : GaugeWall.class.getMethods()) {
            methods.put(method.getName(), method);
        }
        return methods;
    }

    private static long answer(GaugeWall one, String call) {
        int open = call.indexOf('(');
        String inside = call.substring(open + 1, call.length() - 1);
        Object[] numbers = inside.isEmpty() ? new Object[0] : Arrays.stream(inside.split(", ")).map(Run::number).toArray();
        try {
            Object answer = FACE.get(call.substring(0, open)).invoke(one, numbers);
            return answer instanceof Boolean yes ? (yes ? 1 : 0) : ((Number) answer).longValue();
        } catch (ReflectiveOperationException e) {
            throw new IllegalStateException(call, e);
        }
    }

    private static Integer number(String told) {
        switch (told) {
            case "NONE": return GaugeWall.NONE;
            case "LEAST": return Integer.MIN_VALUE;
            case "MOST": return Integer.MAX_VALUE;
            default: return Integer.valueOf(told);
        }
    }
}
