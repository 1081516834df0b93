import java.lang.reflect.InvocationTargetException;
import java.lang.reflect.Method;
import java.lang.reflect.Modifier;
import java.util.ArrayList;
import java.util.Arrays;
import java.util.List;

/**
 * Each call of the face with all arguments out of a row of extreme ones, in several states: it answers as
 * the Model does, or throws the very exception that the Model throws, and leaves what it leaves.
 */
public final class ExtremesTest {
    private static final Check CHECK = new Check("ExtremesTest");
    private static final Integer[] INTS = {Integer.MIN_VALUE, -1, 0, 1, 2, 9, 10, 31, 99, 100, 999, 1000, Integer.MAX_VALUE};
    private static final Long[] LONGS = {Long.MIN_VALUE, -1L, 0L, 1L, 2147483648L, 999999999999999L, 1000000000000000L,
        1000000000000001L, Long.MAX_VALUE};

    /** Nothing is promised after the 512th call. */
    private static final int CALLS = 480;

    /** Each state as the texts that are read, the conditions that are toggled, and what is left in the buffer. */
    private static final String[][] STATES = {
        {"", "", ""},
        {"x=1%2", "", "x=0"},
        {"6x=3%9;x=1%2;4x=2%8;x=0%1;x=7%12", "", "x=1%2"},
        {"6x=3%9;x=1%2;4x=2%8;x=0%1;x=7%12", "03", "x=1%2;;"},
        {"x=0%1;x=1%2;x=2%3;x=3%4;x=4%5;x=5%6;x=6%7;x=7%8;x=8%9;x=9%10", "", "x".repeat(60)},
        {"x=0%1;x=1%2;x=2%3;x=4%4;x=4%5;x=5%6;x=6%7;x=7%8;x=8%9;x=9%10", "0246", "x=0%1;x=1%2"},
        {"x=556%557;x=348%349;x=978%979;x=331%332;x=930%931;x=16%17", "", "x=0%2"},
        {"x=0%857;x=0%769;x=0%277;x=0%157;x=0%943;2x=1%2;x=1%857", "56", "x=0%37;x=0%1"},
    };

    private SharedModuli real;
    private Model model;
    private int calls;

    public static void main(String[] args) throws ReflectiveOperationException {
        int methods = 0;
        for (Method method : SharedModuli.class.getDeclaredMethods()) {
            if (Modifier.isPublic(method.getModifiers())) {
                methods++;
                for (String[] state : STATES) {
                    new ExtremesTest().tryAll(method, state);
                }
            }
        }
        CHECK.due("methods of the face", methods, 26);
        CHECK.end();
    }

    private void begin(String[] state) {
        real = new SharedModuli();
        model = new Model();
        calls = 0;
        type(state[0]);
        if (!state[0].isEmpty()) {
            CHECK.due("read " + state[0], real.read(), model.read());
        }
        for (char number : state[1].toCharArray()) {
            CHECK.due("toggle " + number, real.toggle(number - '0'), model.toggle(number - '0'));
        }
        type(state[2]);
    }

    private void type(String text) {
        for (char sign : text.toCharArray()) {
            CHECK.due("append " + sign, real.append(sign), model.append(sign));
        }
        calls += text.length() + 3;
    }

    private void tryAll(Method ofReal, String[] state) throws ReflectiveOperationException {
        Method ofModel = Model.class.getDeclaredMethod(ofReal.getName(), ofReal.getParameterTypes());
        begin(state);
        for (Object[] arguments : arguments(ofReal.getParameterTypes())) {
            String call = ofReal.getName() + Arrays.toString(arguments) + " in " + Arrays.toString(state);
            Object got = told(ofReal, real, arguments);
            Object due = told(ofModel, model, arguments);
            CHECK.isTrue(call + " answered " + got + ", the model " + due, got.equals(due));
            calls++;
            boolean changed = !got.toString().startsWith("throws.") && !isLook(ofReal.getName());
            if (changed || calls > CALLS) {
                CHECK.due(call + ": digest then", real.digest(), model.digest());
                begin(state);
            }
        }
        CHECK.due(ofReal.getName() + ": digest at the end", real.digest(), model.digest());
    }

    private static boolean isLook(String name) {
        return !List.of("add", "remove", "toggle", "bare", "thin", "agree", "append", "clearBuffer", "read", "undo")
            .contains(name);
    }

    private static Object told(Method method, Object of, Object[] arguments) throws ReflectiveOperationException {
        try {
            return method.invoke(of, arguments);
        } catch (InvocationTargetException e) {
            return "throws." + e.getCause().getClass().getSimpleName();
        }
    }

    private static List<Object[]> arguments(Class<?>[] types) {
        List<Object[]> rows = new ArrayList<>();
        rows.add(new Object[0]);
        for (Class<?> type : types) {
            List<Object[]> longer = new ArrayList<>();
            for (Object[] row : rows) {
                for (Object next : type == long.class ? LONGS : INTS) {
                    Object[] more = Arrays.copyOf(row, row.length + 1);
                    more[row.length] = next;
                    longer.add(more);
                }
            }
            rows = longer;
        }
        return rows;
    }
}
