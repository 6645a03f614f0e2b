/** The settings: their ranges, first values, and what they don't change; promise 7. */
public final class SettingTests extends DocTest {
    private static final int[] LEAST = {1, 1, 0, 1};
    private static final int[] MOST = {9, 9, 9, 3};
    private static final int[] FIRST = {1, 3, 2, 2};

    public static void main(String[] args) throws IllegalAccessException {
        run(SettingTests.class);
    }

    private static void rangeOf(int what) {
        Subject x = new Subject();
        int before = FIRST[what];
        for (int value = LEAST[what]; value <= MOST[what]; value++) {
            due(x.set(what, value), before);
            due(x.count(20 + what), value);
            before = value;
        }
        due(x.set(what, LEAST[what]), MOST[what]);
        for (int other = 0; other < 4; other++) {
            due(x.count(20 + other), other == what ? LEAST[what] : FIRST[other]);
        }
        for (int value : new int[] {LEAST[what] - 1, MOST[what] + 1, LOWEST, HIGHEST}) {
            refused(after(DocTest::furnish), y -> y.set(what, value), INVALID);
        }
    }

    @Says("0 the ticks of add and sub (1 to 9; 1)")
    private static void ticksOfAddAndSub() {
        rangeOf(0);
    }

    @Says("1 those of mul (1 to 9; 3)")
    private static void ticksOfMul() {
        rangeOf(1);
    }

    @Says("2 the ticks of sitting down (0 to 9; 2)")
    private static void ticksOfSittingDown() {
        rangeOf(2);
    }

    @Says("3 how many orders may begin in a tick (1 to 3; 2).")
    private static void beginsInATick() {
        rangeOf(3);
    }

    @Says("The settings are (in parentheses: range; first value)")
    private static void firstSettings() {
        Subject x = new Subject();
        for (int what = 0; what < 4; what++) {
            due(x.count(20 + what), FIRST[what]);
        }
    }

    @Says("what: 0 to 3 .. value: a value in its range")
    private static void noSuchSetting() {
        for (int what : new int[] {-1, 4, 20, LOWEST, HIGHEST}) {
            refused(after(DocTest::furnish), x -> x.set(what, 1), INVALID);
        }
    }

    @Says("Returns what it was")
    private static void theSettingOfBeforeIsReturned() {
        Subject x = new Subject();
        due(x.set(1, 9), 3);
        due(x.set(1, 9), 9);
        due(x.set(1, 10), INVALID);
        due(x.set(1, 1), 9);
        due(x.undo(), 2);
        due(x.set(1, 4), 9);
    }

    @Says("orders that have begun .. stay as they are.")
    private static void ordersThatHaveBegunStay() {
        Subject x = new Subject();
        x.put(A, 5);
        x.order(ADD, B, A, A);
        x.order(MUL, C, A, A);
        x.order(SUB, D, A, A);
        x.tick(1);
        x.set(0, 9);
        x.set(1, 8);
        due(x.orderOf(0, 5), 1);
        due(x.orderOf(1, 5), 3);
        due(x.tick(1), 1);
        due(x.orderOf(0, 5), 2);
        due(x.orderOf(1, 5), 9);
        x.set(0, 1);
        due(x.orderOf(1, 5), 9);
        due(x.idleIn(), 9);
        due(x.tick(2), 1);
        due(x.tick(6), 0);
        due(x.tick(1), 1);
    }

    @Says("orders that have begun .. stay as they are.")
    private static void ordersThatHaveNotBegunDoNot() {
        Subject x = new Subject();
        x.put(A, 5);
        x.order(ADD, B, A, A);
        x.order(MUL, C, A, A);
        due(x.idleIn(), 4);
        x.set(0, 7);
        x.set(1, 9);
        due(x.idleIn(), 10);
        x.tick(1);
        due(x.orderOf(0, 5), 7);
        due(x.orderOf(1, 5), 9);
    }

    @Says("names that are sitting down, stay as they are.")
    private static void whoIsSittingDownStays() {
        Subject x = new Subject();
        x.copy(B, A);
        x.set(2, 9);
        due(x.knownIn(A), 2);
        x.set(2, 0);
        due(x.knownIn(A), 2);
        due(x.nameOf(A, 0), MISSING);
        x.tick(1);
        due(x.nameOf(A, 0), MISSING);
        x.tick(1);
        due(x.nameOf(A, 0), 0);
        x.set(2, 9);
        x.copy(D, C);
        x.set(2, 1);
        due(x.knownIn(D), 9);
    }

    @Says("how many orders may begin in a tick")
    private static void fewerOrMoreMayBeginFromNowOn() {
        Subject x = new Subject();
        x.begin(7);
        x.put(A, 5);
        x.set(0, 9);
        for (int name = B; name <= G; name++) {
            x.order(ADD, name, A, A);
        }
        x.set(3, 1);
        x.tick(1);
        due(x.count(4), 1);
        x.set(3, 3);
        x.tick(1);
        due(x.count(4), 4);
        x.set(3, 1);
        x.tick(1);
        due(x.count(4), 5);
    }
}
