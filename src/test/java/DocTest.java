import java.lang.reflect.InvocationTargetException;
import java.lang.reflect.Method;
import java.util.Comparator;
import java.util.List;
import java.util.function.Supplier;
import java.util.function.ToIntFunction;
import java.util.stream.Stream;

/** What the tests that go by the words of the document have in common; each of their tests quotes its sentence. */
abstract class DocTest {
    static final int INVALID = -1;
    static final int IMPOSSIBLE = -2;
    static final int LIMIT = -3;
    static final int MISSING = -4;

    static final int ADD = 0;
    static final int SUB = 1;
    static final int MUL = 2;

    static final int A = 0;
    static final int B = 1;
    static final int C = 2;
    static final int D = 3;
    static final int E = 4;
    static final int F = 5;
    static final int G = 6;
    static final int H = 7;

    static final int LOWEST = Integer.MIN_VALUE;
    static final int HIGHEST = Integer.MAX_VALUE;
    static final int[] NO_NAMES = {-1, 8, LOWEST, HIGHEST};

    /** Every class whose tests quote the document. */
    static final List<Class<? extends DocTest>> ALL = List.of(RoomTests.class, OrderTests.class, SendingTests.class,
        TickTests.class, MarkTests.class, SettingTests.class, TextTests.class, ChangeTests.class, QuestionTests.class);

    /** What is done after a refused call, to see that it left nothing behind: kinds and arguments. */
    private static final int[][] UNDONE = {{Calls.UNDO}, {Calls.UNDO}, {Calls.UNDO}, {Calls.UNDO}, {Calls.UNDO}};
    private static final int[][] GONE_ON = {{Calls.PUT, H, 1}, {Calls.PUT, G, 2}, {Calls.PUT, F, 3}, {Calls.TICK, 1},
        {Calls.ORDER, ADD, E, H, G}, {Calls.MARK}, {Calls.TICK, 2}, {Calls.COPY, D, C}, {Calls.KEEP},
        {Calls.PUT, C, 4}, {Calls.TICK, 3}, {Calls.PUT, B, 5}, {Calls.BACK, 0}, {Calls.TYPE, ';'}, {Calls.FAULT, 0},
        {Calls.PLAY}, {Calls.CLEAR_TEXT}, {Calls.BEGIN, 6}, {Calls.UNDO}};

    static List<Method> testsOf(Class<?> tests) {
        return Stream.of(tests.getDeclaredMethods()).filter(m -> m.isAnnotationPresent(Says.class))
            .sorted(Comparator.comparing(Method::getName)).toList();
    }

    /** Runs all tests of a class; one that throws is told, and the others go on. */
    static void run(Class<?> tests) throws IllegalAccessException {
        for (Method test : testsOf(tests)) {
            test.setAccessible(true);
            now = test;
            about = "";
            try {
                test.invoke(null);
            } catch (InvocationTargetException thrown) {
                tell("after " + Checks.lastCall + " was thrown: " + thrown.getCause());
            }
        }
        Checks.end(tests.getName() + " (" + testsOf(tests).size() + " tests)");
    }

    /** What the calls are about, if a test makes many alike. */
    static String about = "";
    private static Method now;

    private static void tell(String fault) {
        Checks.tell(now.getName() + ": " + fault + "\n    \"" + now.getAnnotation(Says.class).value() + "\"");
    }

    /** The answer of the call made last. */
    static void due(int got, int want) {
        if (got != want) {
            tell(Checks.lastCall + about + " answered " + got + ", due is " + want);
        }
    }

    static void same(String what, String got, String want) {
        if (!got.equals(want)) {
            tell(what + ":\n  is  " + got + "\n  due " + want);
        }
    }

    /** What a new object becomes by some calls. */
    interface Steps {
        void on(Subject x);
    }

    static Supplier<Subject> after(Steps steps) {
        return () -> {
            Subject x = new Subject();
            steps.on(x);
            return x;
        };
    }

    /** A call that answers an error: nothing that is asked or done later tells that it was made. */
    static void refused(Supplier<Subject> made, ToIntFunction<Subject> call, int code) {
        changesNothing(made, call, code);
    }

    /** A call that changes nothing: nothing that is asked or done later tells that it was made. */
    static void changesNothing(Supplier<Subject> made, ToIntFunction<Subject> call, int answer) {
        goOnAlike(made, call, answer, UNDONE);
        goOnAlike(made, call, answer, GONE_ON);
    }

    private static void goOnAlike(Supplier<Subject> made, ToIntFunction<Subject> call, int answer, int[][] later) {
        Subject x = made.get();
        Subject twin = made.get();
        due(call.applyAsInt(x), answer);
        String told = Checks.lastCall;
        same("after " + told, x.all(), twin.all());
        for (int[] step : later) {
            int want = make(twin, step);
            int got = make(x, step);
            if (got != want) {
                tell("after " + told + ", " + Checks.lastCall + " answered " + got + ", without it " + want);
            }
        }
        same("long after " + told, x.all(), twin.all());
    }

    /** Makes a call that is told by its kind and its arguments. */
    static int make(Subject x, int[] step) {
        int[] a = new int[5];
        System.arraycopy(step, 0, a, 0, step.length);
        return x.call(a[0], a[1], a[2], a[3], a[4]);
    }

    /** A room in which there is something of everything: a mark, orders begun and not, a text, a full history. */
    static void furnish(Subject x) {
        x.begin(7);
        x.put(A, 5);
        x.put(B, 7);
        x.copy(C, A);
        x.mark();
        x.order(MUL, D, A, B);
        x.tick(1);
        x.order(SUB, E, D, B);
        x.put(A, 9);
        x.typeAll("put f 12;tick 1");
    }

    /** As many chairs as told, each with the version of a name of its own, whose value is its number and 10. */
    static void fill(Subject x, int chairs) {
        x.begin(chairs);
        for (int name = 0; name < chairs; name++) {
            x.put(name, 10 + name);
        }
    }

    /** The time 49995, five ticks before the last one. */
    static void nearTheLastTime(Subject x) {
        x.typeAll("tick 99;tick 99;tick 99;tick 99;tick 99;tick 99;tick 99;tick 99;tick 99;tick 99;");
        for (int i = 0; i < 50; i++) {
            x.play();
        }
        x.clearText();
        x.typeAll("tick 99;tick 99;tick 99;tick 99;tick 99;");
        x.play();
        x.clearText();
    }
}
