import java.util.function.ToIntFunction;

/** Changes and errors: the history, undo (promise 19), and which error goes before which. */
public final class ChangeTests extends DocTest {
    public static void main(String[] args) throws IllegalAccessException {
        run(ChangeTests.class);
    }

    /** A furnished room that is one change from a new one, so that its history has one state. */
    private static void furnishInOneChange(Subject x) {
        x.typeAll("put a 5;put b 7;copy c a;mark;mul d c b;tick 1;put e 9;");
        x.play();
        x.clearText();
        x.typeAll("put f 12;");
    }

    // ---- which calls are changes

    private static void isAChange(ToIntFunction<Subject> call, int answer) {
        Subject x = new Subject();
        furnishInOneChange(x);
        String before = x.state();
        due(x.count(10), 1);
        due(call.applyAsInt(x), answer);
        String told = Checks.lastCall;
        due(x.count(10), 2);
        String then = x.state();
        due(x.undo(), 1);
        same("undone " + told, x.state(), before);
        due(call.applyAsInt(x), answer);
        same("done again " + told, x.state(), then);
        due(x.count(10), 2);
    }

    @Says("The changes are the calls of begin")
    private static void beginIsAChange() {
        isAChange(x -> x.begin(3), 5);
        isAChange(x -> x.begin(5), 5);
        isAChange(x -> x.begin(7), 5);
    }

    @Says("The changes are the calls of .. put")
    private static void putIsAChange() {
        isAChange(x -> x.put(A, 1), 4);
        isAChange(x -> x.put(E, 9), 3);
    }

    @Says("The changes are the calls of .. copy")
    private static void copyIsAChange() {
        isAChange(x -> x.copy(C, A), 0);
        isAChange(x -> x.copy(H, G), 4);
    }

    @Says("The changes are the calls of .. order")
    private static void orderIsAChange() {
        isAChange(x -> x.order(ADD, A, B, C), 4);
        isAChange(x -> x.order(SUB, E, E, E), 4);
        isAChange(x -> x.order(MUL, F, A, B), 4);
    }

    @Says("The changes are the calls of .. tick")
    private static void tickIsAChange() {
        isAChange(x -> x.tick(1), 0);
        isAChange(x -> x.tick(99), 1);
    }

    @Says("The changes are the calls of .. set")
    private static void setIsAChange() {
        isAChange(x -> x.set(0, 9), 1);
        isAChange(x -> x.set(2, 2), 2);
    }

    @Says("The changes are the calls of .. mark, keep, back")
    private static void markKeepAndBackAreChanges() {
        isAChange(x -> x.mark(), 1);
        isAChange(x -> x.keep(), 0);
        isAChange(x -> x.back(0), 1);
    }

    @Says("The changes are the calls of .. play that return no error.")
    private static void playIsAChange() {
        isAChange(x -> x.play(), 1);
    }

    @Says("The changes are the calls of begin, put, copy, order, tick, mark, keep, back, set and play")
    private static void noOtherCallIsAChange() {
        Subject x = new Subject();
        furnishInOneChange(x);
        due(x.markOf(0, A, 0), 0);
        due(x.nameOf(A, 0), 5);
        due(x.chairOf(0, 1), 5);
        due(x.orderOf(0, 0), MUL);
        due(x.count(0), 5);
        due(x.sends(F, A, B), 0);
        due(x.idleIn(), 3);
        due(x.knownIn(D), 3);
        due(x.fault(0), MISSING);
        due(x.type('m'), 10);
        due(x.fault(0), 9);
        due(x.clearText(), 10);
        due(x.count(10), 1);
        due(x.undo(), 0);
        due(x.count(10), 0);
    }

    @Says("the calls of begin, put, copy, order, tick, mark, keep, back, set and play that return no error.")
    private static void callsThatReturnAnErrorAreNoChanges() {
        Subject x = new Subject();
        furnishInOneChange(x);
        due(x.begin(8), INVALID);
        due(x.put(A, 10000), INVALID);
        due(x.copy(A, A), INVALID);
        due(x.order(3, A, A, A), INVALID);
        due(x.tick(0), INVALID);
        due(x.set(3, 4), INVALID);
        due(x.back(1), INVALID);
        x.type('x');
        due(x.play(), IMPOSSIBLE);
        due(x.count(10), 1);
        Subject y = new Subject();
        due(y.keep(), IMPOSSIBLE);
        y.mark();
        y.mark();
        y.mark();
        due(y.mark(), LIMIT);
        due(y.count(10), 3);
    }

    // ---- the history

    @Says("A history of at most 4 states is kept")
    private static void noneToFourStates() {
        Subject x = new Subject();
        for (int states = 0; states <= 4; states++) {
            due(x.count(10), states);
            x.put(A, states);
        }
        due(x.count(10), 4);
        x.put(A, 9);
        due(x.count(10), 4);
        due(x.undo(), 3);
        due(x.count(10), 3);
    }

    @Says("if there are 5 states then, the oldest one is dropped.")
    private static void theOldestOfFiveStatesIsDropped() {
        Subject x = new Subject();
        for (int value = 1; value <= 5; value++) {
            x.put(A, value);
        }
        for (int value = 4; value >= 1; value--) {
            due(x.undo(), value - 1);
            due(x.nameOf(A, 0), value);
        }
        due(x.undo(), IMPOSSIBLE);
        due(x.nameOf(A, 0), 1);
    }

    @Says("if there are 5 states then, the oldest one is dropped.")
    private static void fourStatesAreAllKept() {
        Subject x = new Subject();
        for (int value = 1; value <= 4; value++) {
            x.put(A, value);
        }
        for (int value = 3; value >= 0; value--) {
            due(x.undo(), value);
            due(x.nameOf(A, 0), value);
        }
        due(x.nameOf(A, 1), MISSING);
        due(x.undo(), IMPOSSIBLE);
    }

    @Says("if there are 5 states then, the oldest one is dropped.")
    private static void manyMoreChangesThanStates() {
        Subject x = new Subject();
        for (int value = 1; value <= 40; value++) {
            x.put(A, value);
            due(x.count(10), Math.min(4, value));
        }
        for (int value = 39; value >= 36; value--) {
            due(x.undo(), value - 36);
            due(x.nameOf(A, 0), value);
        }
        due(x.undo(), IMPOSSIBLE);
    }

    @Says("Restores the latest state of the history, which is removed from it.")
    private static void changesAfterUndo() {
        Subject x = new Subject();
        x.put(A, 1);
        x.put(A, 2);
        due(x.undo(), 1);
        x.put(A, 3);
        due(x.count(10), 2);
        x.put(A, 4);
        x.put(A, 5);
        x.put(A, 6);
        due(x.count(10), 4);
        int[] values = {5, 4, 3, 1};
        for (int i = 0; i < 4; i++) {
            due(x.undo(), 3 - i);
            due(x.nameOf(A, 0), values[i]);
        }
        due(x.undo(), IMPOSSIBLE);
    }

    @Says("Returns the number of states that are left in the history; NOT_POSSIBLE if it is empty.")
    private static void undoWithAnEmptyHistory() {
        refused(Subject::new, Subject::undo, IMPOSSIBLE);
        refused(after(x -> {
            furnish(x);
            for (int i = 0; i < 4; i++) {
                x.undo();
            }
        }), Subject::undo, IMPOSSIBLE);
    }

    @Says("each change records everything before it but the text")
    private static void theTextIsNotRecorded() {
        Subject x = new Subject();
        x.typeAll("mark;");
        x.put(A, 1);
        x.typeAll("keep;");
        due(x.undo(), 0);
        due(x.count(11), 10);
        due(x.play(), 2);
        x.clearText();
        due(x.undo(), 0);
        due(x.count(11), 0);
        due(x.fault(0), MISSING);
    }

    @Says("each change records everything before it but the text")
    private static void everythingElseIsRecorded() {
        Subject x = new Subject();
        furnish(x);
        x.set(1, 9);
        x.set(3, 1);
        String before = x.state();
        x.begin(3);
        x.set(0, 9);
        x.put(A, 1);
        x.tick(50);
        due(x.undo(), 3);
        due(x.undo(), 2);
        due(x.undo(), 1);
        due(x.undo(), 0);
        same("everything", x.state(), before);
        due(x.tick(3), 1);
        due(x.nameOf(D, 0), 35);
        due(x.nameOf(E, 4), 28);
    }

    @Says("each change records everything before it")
    private static void aChangeThatLeavesAllAsItWas() {
        Subject x = new Subject();
        x.begin(5);
        x.set(0, 1);
        x.mark();
        x.back(0);
        due(x.count(10), 4);
        due(x.undo(), 3);
        due(x.count(7), 1);
        due(x.undo(), 2);
        due(x.count(7), 0);
        due(x.undo(), 1);
        due(x.undo(), 0);
    }

    @Says("A call that returns an error changes nothing.")
    private static void callsThatReturnAnErrorChangeNothing() {
        int[][] calls = {{Calls.BEGIN, 2}, {Calls.BEGIN, 8}, {Calls.PUT, A, 10000}, {Calls.PUT, 8, 0}, {Calls.COPY, B, B},
            {Calls.COPY, F, 8}, {Calls.ORDER, 3, F, G, H}, {Calls.ORDER, ADD, 8, G, H}, {Calls.ORDER, ADD, A, G, 8},
            {Calls.TICK, 0}, {Calls.TICK, 100}, {Calls.SET, 0, 0}, {Calls.SET, 3, 4}, {Calls.SET, 4, 1}, {Calls.BACK, 1},
            {Calls.BACK, -1}, {Calls.MARK_OF, 1, A, 0}, {Calls.NAME_OF, 8, 0}, {Calls.CHAIR_OF, 7, 0},
            {Calls.ORDER_OF, 2, 0}, {Calls.COUNT, 12}, {Calls.SENDS, F, 8, H}, {Calls.KNOWN_IN, 8}, {Calls.TYPE, 31},
            {Calls.FAULT, 3}};
        for (int[] call : calls) {
            refused(after(DocTest::furnish), x -> make(x, call), INVALID);
        }
        refused(after(DocTest::furnish), Subject::play, IMPOSSIBLE);
        refused(after(DocTest::furnish), x -> x.nameOf(D, 0), MISSING);
        refused(after(DocTest::furnish), x -> x.chairOf(5, 1), MISSING);
        refused(after(DocTest::furnish), x -> x.orderOf(1, 5), MISSING);
        refused(after(DocTest::furnish), x -> x.markOf(0, H, 0), MISSING);
    }

    // ---- which error goes before which

    @Says("INVALID_ARGUMENT is returned rather than NOT_POSSIBLE")
    private static void invalidPutCopyAndOrderWithoutChairs() {
        Steps full = x -> {
            fill(x, 3);
            x.mark();
        };
        refused(after(full), x -> x.put(D, 10000), INVALID);
        refused(after(full), x -> x.put(8, 1), INVALID);
        refused(after(full), x -> x.put(D, 1), IMPOSSIBLE);
        refused(after(full), x -> x.copy(D, D), INVALID);
        refused(after(full), x -> x.copy(8, D), INVALID);
        refused(after(full), x -> x.copy(A, D), IMPOSSIBLE);
        refused(after(full), x -> x.order(3, D, A, B), INVALID);
        refused(after(full), x -> x.order(ADD, 8, A, B), INVALID);
        refused(after(full), x -> x.order(ADD, D, E, 8), INVALID);
        refused(after(full), x -> x.order(ADD, D, -1, E), INVALID);
        refused(after(full), x -> x.order(ADD, D, A, B), IMPOSSIBLE);
        refused(after(full), x -> x.sends(8, A, B), INVALID);
        refused(after(full), x -> x.sends(D, E, 8), INVALID);
        refused(after(full), x -> x.sends(D, -1, E), INVALID);
        refused(after(full), x -> x.sends(D, A, B), IMPOSSIBLE);
    }

    @Says("INVALID_ARGUMENT is returned rather than NOT_POSSIBLE, NOT_POSSIBLE rather than LIMIT_REACHED")
    private static void invalidOrdersBesideSixThatAreNotDone() {
        Steps six = x -> {
            x.begin(7);
            x.put(A, 5);
            for (int i = 0; i < 6; i++) {
                x.order(ADD, B, A, A);
            }
        };
        refused(after(six), x -> x.order(3, B, A, A), INVALID);
        refused(after(six), x -> x.order(-1, B, A, A), INVALID);
        refused(after(six), x -> x.order(ADD, 8, A, A), INVALID);
        refused(after(six), x -> x.order(ADD, B, 8, A), INVALID);
        refused(after(six), x -> x.order(ADD, B, A, -1), INVALID);
        refused(after(six), x -> x.order(ADD, B, A, A), IMPOSSIBLE);
        refused(after(six), x -> x.sends(B, A, A), IMPOSSIBLE);
    }

    @Says("INVALID_ARGUMENT is returned rather than .. NOT_FOUND.")
    private static void invalidQuestionsWithoutAnAnswer() {
        Subject x = new Subject();
        x.mark();
        due(x.markOf(0, A, 0), MISSING);
        due(x.markOf(1, A, 0), INVALID);
        due(x.markOf(0, 8, 0), INVALID);
        due(x.markOf(0, A, 2), INVALID);
        due(x.nameOf(A, 1), MISSING);
        due(x.nameOf(8, 1), INVALID);
        due(x.nameOf(-1, 3), INVALID);
        due(x.nameOf(A, 5), INVALID);
        due(x.nameOf(A, -1), INVALID);
        due(x.chairOf(0, 0), MISSING);
        due(x.chairOf(0, 6), INVALID);
        due(x.chairOf(0, -1), INVALID);
        due(x.chairOf(5, 0), INVALID);
        x.order(ADD, B, A, A);
        due(x.orderOf(0, 5), MISSING);
        due(x.orderOf(0, 7), INVALID);
        due(x.orderOf(0, -1), INVALID);
        due(x.orderOf(1, 5), INVALID);
        due(x.fault(0), MISSING);
        due(x.fault(3), INVALID);
        due(x.fault(-1), INVALID);
    }

    @Says("If there is no name, chair, order or mark with a certain number, this is INVALID_ARGUMENT.")
    private static void noNameChairOrderOrMark() {
        Subject x = new Subject();
        due(x.nameOf(8, 0), INVALID);
        due(x.chairOf(5, 0), INVALID);
        due(x.orderOf(0, 0), INVALID);
        due(x.markOf(0, A, 1), INVALID);
        due(x.back(0), INVALID);
        x.begin(7);
        x.mark();
        x.order(ADD, B, A, A);
        due(x.chairOf(5, 0), MISSING);
        due(x.chairOf(7, 0), INVALID);
        due(x.orderOf(0, 0), ADD);
        due(x.orderOf(1, 0), INVALID);
        due(x.markOf(0, A, 1), 0);
        due(x.markOf(1, A, 1), INVALID);
        due(x.back(1), INVALID);
    }

    // ---- how long an object is used

    @Says("An object is used for at most 512 calls after it has been made")
    private static void theLastPromisedCalls() {
        Subject x = new Subject();
        x.begin(3);
        for (int i = 0; i < 507; i++) {
            due(x.put(i % 3, i), i % 3);
        }
        due(x.put(D, 1), 0);
        due(x.nameOf(A, 2), 504);
        due(x.undo(), 3);
        due(x.nameOf(A, 0), 504);
    }

    @Says("An object is used for at most 512 calls after it has been made")
    private static void manyPlaysOfFullTexts() {
        Subject x = new Subject();
        for (int i = 0; i < 10; i++) {
            x.typeAll("put a 1;");
        }
        for (int i = 0; i < 427; i++) {
            due(x.play(), 10);
        }
        due(x.put(B, 2), 1);
        due(x.put(C, 3), 2);
        due(x.nameOf(A, 0), 1);
        due(x.undo(), 3);
        due(x.count(2), 2);
    }
}
