import java.lang.reflect.InvocationTargetException;
import java.lang.reflect.Method;
import java.util.ArrayList;
import java.util.List;

/**
 * Makes the same calls, drawn from a fixed seed, on the program and on the model, and compares
 * the answers and the exceptions. A run is told up to its first wrong answer.
 */
public final class ModelTest {
    private static final int RUNS = 2500;
    private static final int CALLS = 512;
    private static final int[] STRANGE = {
        Integer.MIN_VALUE, Integer.MAX_VALUE, -1, 2, 3, 8, 16, 17, 33, 49, 101, 128, -129, 1001, -1001, 1 << 28,
    };

    private static long seed = 20261119;
    private static final List<String[]> METHODS = new ArrayList<>();

    /** A number from 0 to one less than the bound; the same in every run of the test. */
    private static int draw(int bound) {
        seed = seed * 6364136223846793005L + 1442695040888963407L;
        return (int) Math.floorMod(seed >>> 33, (long) bound);
    }

    private static int between(int least, int greatest) {
        return least + draw(greatest - least + 1);
    }

    private static void method(int weight, String name, String... parameters) {
        String[] entry = new String[parameters.length + 1];
        entry[0] = name;
        System.arraycopy(parameters, 0, entry, 1, parameters.length);
        for (int k = 0; k < weight; k++) {
            METHODS.add(entry);
        }
    }

    private static void listMethods() {
        method(2, "setEdge", "channel", "level", "hysteresis", "flag");
        method(2, "setWidth", "channel", "level", "least", "most", "flag");
        method(2, "setRunt", "channel", "level", "high");
        method(2, "setSequence", "level", "level", "span");
        method(2, "setLengths", "pre", "post");
        method(1, "setHoldoff", "holdoff");
        method(1, "arm");
        method(1, "disarm");
        method(2, "isArmed");
        method(2, "isCatching");
        method(40, "push", "value", "value", "short");
        method(16, "ramp", "value", "value", "step", "step", "long");
        method(1, "samples");
        method(4, "fired");
        method(3, "records");
        method(2, "trigger", "record");
        method(2, "length", "record");
        method(3, "value", "record", "channel", "position");
        method(2, "low", "record", "channel", "size", "group");
        method(2, "high", "record", "channel", "size", "group");
        method(2, "mean", "record", "channel", "size", "group");
        method(4, "rescan", "record");
        method(2, "setMask", "from", "to", "level", "high");
        method(1, "clearMask");
        method(2, "failures");
        method(2, "firstOffence");
        method(3, "putChannel", "channel");
        method(2, "putConstant", "constant");
        method(3, "apply", "applied");
        method(4, "combine", "combined");
        method(1, "clearTrace");
        method(3, "trace", "record", "position");
        method(2, "least", "record", "source");
        method(2, "greatest", "record", "source");
        method(2, "average", "record", "source");
        method(2, "crossings", "record", "source", "number");
        method(2, "period", "record", "source", "number");
        method(2, "riseTime", "record", "source", "number", "above");
    }

    private static Object drawn(String parameter, Object before) {
        if (parameter.equals("flag")) {
            return draw(2) == 0;
        }
        if (draw(60) == 0) {
            return STRANGE[draw(STRANGE.length)];
        }
        int last = before instanceof Integer ? (Integer) before : 0;
        switch (parameter) {
            case "channel": return draw(2);
            case "source": return draw(3);
            case "level": return draw(3) == 0 ? between(-128, 127) : between(-4, 4);
            case "value": return draw(6) == 0 ? between(-128, 127) : between(-6, 6);
            case "high": return draw(4) == 0 ? between(-128, 127) : last + draw(6);
            case "hysteresis": return draw(6) == 0 ? between(0, 100) : draw(4);
            case "least": return draw(6) == 0 ? between(1, 100) : between(1, 4);
            case "most": return draw(6) == 0 ? between(1, 100) : last + draw(6);
            case "span": return draw(6) == 0 ? between(0, 100) : draw(6);
            case "pre": return draw(3) == 0 ? between(0, 16) : draw(3);
            case "post": return draw(3) == 0 ? between(0, 32) : draw(4);
            case "holdoff": return draw(6) == 0 ? between(0, 1000) : draw(12);
            case "short": return draw(8) == 0 ? between(1, 50) : between(1, 3);
            case "long": return between(1, 50);
            case "step": return between(-50, 50) / (1 + draw(30));
            case "record": return draw(12) == 0 ? between(0, 8) : draw(2);
            case "position": return draw(3) == 0 ? between(0, 49) : draw(4);
            case "size": return between(1, 16);
            case "group": return draw(4) == 0 ? draw(49) : draw(2);
            case "from": return draw(4) == 0 ? between(0, 48) : draw(4);
            case "to": return draw(4) == 0 ? between(0, 48) : last + draw(4);
            case "constant": return draw(3) == 0 ? between(-9, 9) : between(-1000, 1000);
            case "applied": return draw(4);
            case "combined": return draw(5);
            case "number": return draw(4) == 0 ? between(-2000000, 2000000) : between(-8, 8);
            case "above": return draw(4) == 0 ? between(-2000000, 2000000) : last + draw(6);
            default: throw new AssertionError(parameter);
        }
    }

    private static Object[] drawnArguments(String[] entry) {
        Object[] arguments = new Object[entry.length - 1];
        for (int k = 0; k < arguments.length; k++) {
            arguments[k] = drawn(entry[k + 1], k == 0 ? null : arguments[k - 1]);
        }
        return arguments;
    }

    private static Method find(Class<?> type, String name) {
        for (Method method : type.getMethods()) {
            if (method.getName().equals(name) && method.getDeclaringClass() == type) {
                return method;
            }
        }
        throw new AssertionError(type + " has no " + name);
    }

    private static String answer(Object object, String name, Object[] arguments) throws IllegalAccessException {
        try {
            return String.valueOf(find(object.getClass(), name).invoke(object, arguments));
        } catch (InvocationTargetException e) {
            return "throws." + e.getCause().getClass().getSimpleName();
        }
    }

    /** Makes one run; answers whether all answers were as due. */
    private static boolean run(int number) throws IllegalAccessException {
        Triggerwright program = new Triggerwright();
        Model model = new Model();
        StringBuilder told = new StringBuilder();
        // Some runs leave the record lengths and the memory alone for long, so that it fills.
        boolean calm = number % 2 == 0;
        for (int k = 0; k < CALLS; k++) {
            String[] entry = METHODS.get(draw(METHODS.size()));
            boolean settles = entry[0].endsWith("arm") || entry[0].equals("clearTrace");
            if (calm && settles && draw(4) != 0) {
                continue;
            }
            Object[] arguments = drawnArguments(entry);
            String got = answer(program, entry[0], arguments);
            String due = answer(model, entry[0], arguments);
            told.append("  ").append(entry[0]).append(java.util.Arrays.toString(arguments)).append(' ').append(got);
            told.append('\n');
            if (!got.equals(due)) {
                System.out.println("run " + number + ", due at the end is " + due + ":\n" + told);
                return false;
            }
        }
        return true;
    }

    public static void main(String[] args) throws IllegalAccessException {
        listMethods();
        for (int number = 0; number < RUNS; number++) {
            boolean right = run(number);
            Check.due("run " + number, right, true);
            if (!right) {
                break;
            }
        }
        Check.finish("ModelTest");
    }
}
