/** A tick: what comes first in it, how many orders begin, when they are done; promise 6. */
public final class TickTests extends DocTest {
    public static void main(String[] args) throws IllegalAccessException {
        run(TickTests.class);
    }

    @Says("Time becomes greater by 1.")
    private static void timeGoesByOne() {
        Subject x = new Subject();
        for (int time = 1; time <= 5; time++) {
            due(x.tick(1), 0);
            due(x.count(6), time);
        }
        due(x.tick(7), 0);
        due(x.count(6), 12);
    }

    @Says("ticks: 1 to 99")
    private static void fewestAndMostTicks() {
        Subject x = new Subject();
        due(x.tick(99), 0);
        due(x.count(6), 99);
        due(x.tick(1), 0);
        due(x.count(6), 100);
        for (int ticks : new int[] {0, 100, -1, -99, LOWEST, HIGHEST}) {
            refused(after(DocTest::furnish), y -> y.tick(ticks), INVALID);
        }
    }

    // ---- the order of what is done in a tick

    @Says("Then versions of names that sat down are known, if it is their time.")
    private static void whoSatDownIsKnownBeforeOrdersBegin() {
        Subject x = new Subject();
        x.order(ADD, B, A, A);
        due(x.tick(1), 0);
        due(x.orderOf(0, 4), 0);
        due(x.nameOf(A, 0), MISSING);
        due(x.tick(1), 0);
        due(x.nameOf(A, 0), 0);
        due(x.orderOf(0, 4), 1);
        due(x.orderOf(0, 5), 1);
        due(x.tick(1), 1);
    }

    @Says("Then versions of names that sat down are known, if it is their time.")
    private static void everyoneHasATimeOfHisOwn() {
        Subject x = new Subject();
        x.copy(B, A);
        x.tick(1);
        x.copy(D, C);
        x.set(2, 1);
        x.copy(F, E);
        due(x.knownIn(A), 1);
        due(x.knownIn(C), 2);
        due(x.knownIn(E), 1);
        x.tick(1);
        due(x.nameOf(B, 0), 0);
        due(x.nameOf(D, 0), MISSING);
        due(x.nameOf(F, 0), 0);
        x.tick(1);
        due(x.nameOf(D, 0), 0);
    }

    @Says("Then orders that are due are done, and their versions are known. Then the orders that have not begun yet")
    private static void anOrderBeginsInTheTickInWhichWhatItReadsIsDone() {
        Subject x = new Subject();
        x.put(A, 5);
        x.order(ADD, B, A, A);
        x.order(ADD, C, B, B);
        due(x.tick(1), 0);
        due(x.orderOf(1, 4), 0);
        due(x.tick(1), 1);
        due(x.nameOf(B, 0), 10);
        due(x.orderOf(0, 4), 1);
        due(x.orderOf(0, 5), 1);
        due(x.tick(1), 1);
        due(x.nameOf(C, 0), 20);
        due(x.count(3), 0);
    }

    @Says("an order that begins is due so many ticks later")
    private static void anOrderIsNotDoneInTheTickInWhichItBegins() {
        Subject x = new Subject();
        x.put(A, 5);
        x.order(ADD, B, A, A);
        due(x.count(4), 0);
        due(x.tick(1), 0);
        due(x.count(3), 1);
        due(x.count(4), 1);
        due(x.tick(1), 1);
        due(x.count(3), 0);
        due(x.count(4), 0);
    }

    @Says("Then the orders that have not begun yet and read known versions alone begin")
    private static void bothVersionsMustBeKnown() {
        for (int first = 0; first < 2; first++) {
            Subject x = new Subject();
            x.put(A, 5);
            due(first == 0 ? x.order(SUB, C, B, A) : x.order(SUB, C, A, B), 2);
            x.tick(1);
            due(x.orderOf(0, 4), 0);
            due(x.orderOf(0, 5), MISSING);
            x.tick(1);
            due(x.orderOf(0, 4), 1);
            due(x.tick(1), 1);
        }
    }

    @Says("Then the orders that have not begun yet .. begin")
    private static void anOrderBeginsOnce() {
        Subject x = new Subject();
        x.put(A, 5);
        x.set(1, 9);
        x.order(MUL, B, A, A);
        for (int ticks = 9; ticks >= 1; ticks--) {
            due(x.tick(1), 0);
            due(x.orderOf(0, 5), ticks);
        }
        due(x.tick(1), 1);
    }

    // ---- how many begin

    private static Subject fiveThatCouldBegin(int most) {
        Subject x = new Subject();
        x.begin(7);
        x.set(3, most);
        x.set(0, 9);
        x.put(A, 5);
        for (int name = B; name <= F; name++) {
            x.order(ADD, name, A, A);
        }
        return x;
    }

    @Says("but at most as many in a tick as the setting 3 tells")
    private static void oneToThreeBeginInATick() {
        for (int most = 1; most <= 3; most++) {
            Subject x = fiveThatCouldBegin(most);
            for (int tick = 1; tick <= 6; tick++) {
                due(x.tick(1), 0);
                due(x.count(4), Math.min(5, most * tick));
            }
        }
    }

    @Says("the one that was given first ahead")
    private static void theFirstBeginsAhead() {
        Subject x = fiveThatCouldBegin(2);
        x.tick(1);
        for (int index = 0; index < 5; index++) {
            due(x.orderOf(index, 4), index < 2 ? 1 : 0);
        }
        x.tick(1);
        for (int index = 0; index < 5; index++) {
            due(x.orderOf(index, 4), index < 4 ? 1 : 0);
        }
        due(x.orderOf(0, 5), 8);
        due(x.orderOf(3, 5), 9);
    }

    @Says("read known versions alone begin, the one that was given first ahead, but at most as many")
    private static void whoCannotBeginDoesNotCount() {
        Subject x = new Subject();
        x.begin(7);
        x.set(3, 1);
        x.put(A, 5);
        x.order(ADD, C, B, B);
        x.order(ADD, D, C, A);
        x.order(ADD, E, A, A);
        x.tick(1);
        due(x.orderOf(0, 4), 0);
        due(x.orderOf(1, 4), 0);
        due(x.orderOf(2, 4), 1);
        due(x.tick(1), 1);
        due(x.orderOf(0, 4), 1);
        due(x.orderOf(1, 4), 0);
    }

    @Says("but at most as many in a tick as the setting 3 tells")
    private static void whoHasBegunDoesNotCount() {
        Subject x = fiveThatCouldBegin(3);
        x.tick(1);
        due(x.count(4), 3);
        x.tick(1);
        due(x.count(4), 5);
    }

    // ---- when they are done

    @Says("as the setting 0 tells for add and sub, and the setting 1 for mul.")
    private static void shortestAndLongestOrders() {
        for (int what = ADD; what <= MUL; what++) {
            for (int ticks = 1; ticks <= 9; ticks += 8) {
                Subject x = new Subject();
                x.put(A, 5);
                x.set(0, what == MUL ? 5 : ticks);
                x.set(1, what == MUL ? ticks : 5);
                x.order(what, B, A, A);
                due(x.tick(1), 0);
                due(x.orderOf(0, 5), ticks);
                due(x.idleIn(), ticks);
                if (ticks > 1) {
                    due(x.tick(ticks - 1), 0);
                }
                due(x.tick(1), 1);
                due(x.nameOf(B, 4), what == ADD ? 10 : what == SUB ? 0 : 25);
            }
        }
    }

    @Says("as the setting 0 tells for add and sub, and the setting 1 for mul.")
    private static void aLaterOrderIsDoneEarlier() {
        Subject x = new Subject();
        x.put(A, 5);
        x.order(MUL, B, A, A);
        x.order(ADD, C, A, A);
        x.tick(1);
        due(x.tick(1), 1);
        due(x.count(3), 1);
        due(x.orderOf(0, 0), MUL);
        due(x.orderOf(1, 0), INVALID);
        due(x.nameOf(C, 0), 10);
        due(x.nameOf(B, 0), MISSING);
        due(x.tick(2), 1);
    }

    @Says("Returns how many orders are done in them")
    private static void noneToSixAreDoneInACall() {
        Subject x = new Subject();
        due(x.tick(1), 0);
        x.begin(7);
        x.put(A, 5);
        for (int i = 0; i < 6; i++) {
            x.order(MUL, A, A, A);
        }
        due(x.tick(3), 0);
        due(x.tick(1), 1);
        due(x.tick(6), 2);
        due(x.tick(99), 3);
        due(x.count(5), 6);
        x.set(3, 3);
        for (int name = B; name <= G; name++) {
            x.order(ADD, name, A, A);
        }
        due(x.count(3), 6);
        due(x.tick(99), 6);
        due(x.count(3), 0);
        due(x.count(5), 12);
        due(x.tick(99), 0);
    }

    @Says("Then orders that are due are done")
    private static void severalAreDoneInOneTick() {
        Subject x = fiveThatCouldBegin(3);
        x.tick(9);
        due(x.count(3), 5);
        due(x.tick(1), 3);
        due(x.tick(1), 2);
    }

    // ---- the last time

    @Says("LIMIT_REACHED if the time would be above 50000.")
    private static void theLastTime() {
        Subject x = new Subject();
        nearTheLastTime(x);
        due(x.count(6), 49995);
        due(x.tick(6), LIMIT);
        due(x.tick(99), LIMIT);
        due(x.count(6), 49995);
        due(x.tick(5), 0);
        due(x.count(6), 50000);
        due(x.tick(1), LIMIT);
        due(x.tick(99), LIMIT);
        due(x.count(6), 50000);
        due(x.begin(5), 5);
        due(x.tick(99), 0);
        due(x.undo(), 3);
        due(x.undo(), 2);
        due(x.count(6), 50000);
        due(x.tick(1), LIMIT);
    }

    @Says("LIMIT_REACHED if the time would be above 50000.")
    private static void aRefusedTickDoesNothingUpToTheLastTime() {
        Steps late = x -> {
            nearTheLastTime(x);
            x.put(A, 5);
            x.order(ADD, B, A, A);
            x.copy(D, C);
        };
        refused(after(late), x -> x.tick(6), LIMIT);
        refused(after(late), x -> x.tick(99), LIMIT);
    }

    @Says("INVALID_ARGUMENT is returned rather than .. LIMIT_REACHED")
    private static void tooManyTicksAtTheLastTime() {
        Subject x = new Subject();
        nearTheLastTime(x);
        due(x.tick(100), INVALID);
        due(x.tick(0), INVALID);
        due(x.tick(HIGHEST), INVALID);
        due(x.tick(5), 0);
        due(x.tick(100), INVALID);
        due(x.tick(0), INVALID);
    }
}
