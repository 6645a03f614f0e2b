/** What there is and what would be: the promises 12 to 18. */
public final class QuestionTests extends DocTest {
    public static void main(String[] args) throws IllegalAccessException {
        run(QuestionTests.class);
    }

    // ---- nameOf

    @Says("Returns something of a name. name: 0 to 7")
    private static void namesToAsk() {
        Subject x = new Subject();
        x.put(A, 5);
        x.put(H, 6);
        due(x.nameOf(A, 0), 5);
        due(x.nameOf(H, 0), 6);
        for (int what = 0; what <= 4; what++) {
            for (int name : NO_NAMES) {
                due(x.nameOf(name, what), INVALID);
            }
        }
    }

    @Says("0: its value; 1: its chair; 2: its home value; 3: how many names have its version, itself included; 4:")
    private static void noSuchQuestionOfAName() {
        Subject x = new Subject();
        x.put(A, 5);
        for (int what : new int[] {-1, 5, LOWEST, HIGHEST}) {
            due(x.nameOf(A, what), INVALID);
            due(x.nameOf(B, what), INVALID);
        }
        int[] want = {5, 0, 0, 1, 5};
        for (int what = 0; what <= 4; what++) {
            due(x.nameOf(A, what), want[what]);
        }
    }

    @Says("NOT_FOUND for 0 if its version is not known yet, for 1 and 3 if it stands.")
    private static void whatIsNotFoundOfAName() {
        Subject x = new Subject();
        x.copy(B, A);
        int[] sits = {MISSING, 0, 0, 2, 0};
        int[] stands = {0, MISSING, 0, MISSING, 0};
        for (int what = 0; what <= 4; what++) {
            due(x.nameOf(A, what), sits[what]);
            due(x.nameOf(C, what), stands[what]);
        }
        x.tick(2);
        due(x.nameOf(A, 0), 0);
    }

    @Says("3: how many names have its version, itself included")
    private static void oneToEightNamesHaveAVersion() {
        Subject x = new Subject();
        x.put(H, 5);
        x.put(G, 6);
        due(x.nameOf(H, 3), 1);
        for (int name = A; name <= G; name++) {
            x.copy(name, H);
            due(x.nameOf(name, 3), name + 2);
        }
        x.put(A, 7);
        due(x.nameOf(A, 3), 1);
        due(x.nameOf(H, 3), 7);
    }

    @Says("4: the value that it will have when all orders are done and all who sit down sit")
    private static void valuesThatNamesWillHave() {
        Subject x = new Subject();
        fill(x, 3);
        x.put(D, 4);
        x.begin(7);
        x.put(C, 12);
        x.order(ADD, A, C, B);
        x.order(MUL, A, A, A);
        x.put(C, 1);
        due(x.nameOf(A, 4), 144);
        due(x.nameOf(B, 4), 0);
        due(x.nameOf(C, 4), 1);
        due(x.nameOf(D, 4), 0);
        x.tick(x.idleIn());
        due(x.nameOf(A, 0), 144);
        due(x.nameOf(A, 4), 144);
    }

    // ---- chairOf

    @Says("Returns something of a chair. chair: number of the chair")
    private static void chairsToAsk() {
        for (int chairs = 3; chairs <= 7; chairs++) {
            Subject x = new Subject();
            fill(x, chairs);
            for (int what = 0; what <= 5; what++) {
                due(x.chairOf(-1, what), INVALID);
                due(x.chairOf(chairs, what), INVALID);
                due(x.chairOf(7, what), INVALID);
                due(x.chairOf(LOWEST, what), INVALID);
                due(x.chairOf(HIGHEST, what), INVALID);
            }
            due(x.chairOf(0, 1), 1);
            due(x.chairOf(chairs - 1, 1), 1 << chairs - 1);
        }
    }

    @Says("Returns something of a chair. chair: number of the chair")
    private static void chairsOfASmallerRoom() {
        Subject x = new Subject();
        fill(x, 7);
        x.begin(3);
        for (int chair = 0; chair < 7; chair++) {
            due(x.chairOf(chair, 1), chair < 3 ? MISSING : INVALID);
        }
        x.undo();
        due(x.chairOf(6, 0), 16);
    }

    @Says("what: 0: the value of the version on it; 1: the names that have it")
    private static void noSuchQuestionOfAChair() {
        Subject x = new Subject();
        x.put(A, 5);
        for (int what : new int[] {-1, 6, LOWEST, HIGHEST}) {
            due(x.chairOf(0, what), INVALID);
            due(x.chairOf(1, what), INVALID);
        }
        int[] want = {5, 1, 0, 0, 0, 1};
        for (int what = 0; what <= 5; what++) {
            due(x.chairOf(0, what), want[what]);
        }
    }

    @Says("NOT_FOUND if the chair is free, for 0 also if the value is not known yet.")
    private static void whatIsNotFoundOfAChair() {
        Subject x = new Subject();
        x.put(A, 5);
        x.order(ADD, B, A, A);
        x.copy(D, C);
        int[] made = {MISSING, 2, 0, 0, 1, 0};
        int[] sat = {MISSING, 12, 0, 0, 0, 0};
        for (int what = 0; what <= 5; what++) {
            due(x.chairOf(1, what), made[what]);
            due(x.chairOf(2, what), sat[what]);
            due(x.chairOf(3, what), MISSING);
            due(x.chairOf(4, what), MISSING);
        }
        x.tick(2);
        due(x.chairOf(1, 0), 10);
        due(x.chairOf(1, 4), 0);
        due(x.chairOf(2, 0), 0);
    }

    @Says("1: the names that have it, as a set (2 to the power of the number for each)")
    private static void setsOfNames() {
        Subject x = new Subject();
        x.put(H, 5);
        due(x.chairOf(0, 1), 128);
        int set = 128;
        for (int name = A; name <= G; name++) {
            x.copy(name, H);
            set += 1 << name;
            due(x.chairOf(0, 1), set);
        }
        x.mark();
        for (int name = A; name <= H; name++) {
            x.put(name, 6);
        }
        due(x.chairOf(0, 1), 0);
    }

    @Says("2: the marks that remember it, likewise")
    private static void setsOfMarks() {
        Subject x = new Subject();
        x.put(H, 5);
        int[] sets = {0, 1, 3, 7};
        for (int marks = 0; marks <= 3; marks++) {
            due(x.chairOf(0, 2), sets[marks]);
            if (marks < 3) {
                x.mark();
            }
        }
        x.put(H, 6);
        due(x.chairOf(1, 2), 0);
        x.keep();
        due(x.chairOf(0, 2), 3);
        x.back(1);
        due(x.chairOf(0, 2), 1);
        x.put(H, 6);
        x.mark();
        due(x.chairOf(1, 2), 2);
    }

    @Says("3: how many orders that are not done read it (an order that reads it twice once)")
    private static void noneToSixOrdersReadAVersion() {
        Subject x = new Subject();
        x.begin(7);
        x.put(A, 5);
        for (int i = 0; i < 6; i++) {
            due(x.chairOf(0, 3), i);
            x.order(ADD, B, A, A);
        }
        due(x.chairOf(0, 3), 6);
        x.begin(7);
        x.put(A, 5);
        x.put(B, 6);
        x.order(ADD, C, A, B);
        x.order(ADD, D, B, A);
        x.order(ADD, E, B, B);
        due(x.chairOf(0, 3), 2);
        due(x.chairOf(1, 3), 3);
        due(x.chairOf(2, 3), 0);
        x.tick(2);
        due(x.chairOf(1, 3), 1);
    }

    @Says("4: 1 if it is of an order that is not done, otherwise 0")
    private static void versionsOfOrders() {
        Subject x = new Subject();
        x.put(A, 5);
        x.order(ADD, B, A, A);
        due(x.chairOf(0, 4), 0);
        due(x.chairOf(1, 4), 1);
        x.tick(1);
        due(x.chairOf(1, 4), 1);
        x.tick(1);
        due(x.chairOf(1, 4), 0);
    }

    @Says("5: 1 if it would be sent out next by an order that reads nothing (whether a chair is free or not)")
    private static void nextToBeSentOut() {
        Subject x = new Subject();
        fill(x, 7);
        for (int chair = 0; chair < 7; chair++) {
            due(x.chairOf(chair, 5), chair == 0 ? 1 : 0);
        }
        due(x.put(H, 1), 0);
        due(x.chairOf(0, 5), 0);
        due(x.chairOf(1, 5), 1);
        x.begin(7);
        x.put(A, 5);
        due(x.chairOf(0, 5), 1);
        x.put(B, 6);
        x.put(A, 7);
        due(x.chairOf(0, 5), 0);
        due(x.chairOf(1, 5), 1);
    }

    @Says("5: 1 if it would be sent out next by an order that reads nothing")
    private static void noneWouldBeSentOut() {
        Subject x = new Subject();
        x.begin(4);
        x.put(A, 5);
        x.mark();
        x.put(B, 6);
        x.order(ADD, C, B, B);
        x.copy(E, D);
        for (int chair = 0; chair < 4; chair++) {
            due(x.chairOf(chair, 5), 0);
        }
        x.tick(2);
        due(x.chairOf(1, 5), 1);
        due(x.chairOf(2, 5), 0);
        due(x.chairOf(3, 5), 0);
        x.keep();
        due(x.chairOf(0, 5), 1);
        due(x.chairOf(1, 5), 0);
    }

    @Says("5: 1 if it would be sent out next by an order that reads nothing")
    private static void theLowerChairWouldBeSentOutNext() {
        Subject x = new Subject();
        x.put(A, 5);
        x.put(B, 6);
        x.put(C, 7);
        x.order(ADD, D, C, B);
        x.put(A, 8);
        x.tick(2);
        due(x.chairOf(0, 5), 0);
        due(x.chairOf(1, 5), 1);
        due(x.chairOf(2, 5), 0);
        due(x.chairOf(3, 5), 0);
    }

    // ---- orderOf

    @Says("index: 0 for the one that was given first, and so on")
    private static void noneToSixOrdersToAsk() {
        Subject x = new Subject();
        x.begin(7);
        x.put(A, 5);
        for (int orders = 0; orders <= 6; orders++) {
            for (int index = 0; index < 7; index++) {
                due(x.orderOf(index, 1), index < orders ? index + 1 : INVALID);
            }
            due(x.orderOf(-1, 0), INVALID);
            due(x.orderOf(LOWEST, 0), INVALID);
            due(x.orderOf(HIGHEST, 0), INVALID);
            if (orders < 6) {
                x.order(ADD, B, A, A);
            }
        }
    }

    @Says("6: how many marks were there when it was given and are there still")
    private static void noSuchQuestionOfAnOrder() {
        Subject x = new Subject();
        x.put(A, 5);
        x.put(B, 3);
        x.mark();
        x.order(MUL, C, B, A);
        x.tick(1);
        int[] want = {MUL, 2, 1, 0, 1, 3, 1};
        for (int what = 0; what <= 6; what++) {
            due(x.orderOf(0, what), want[what]);
        }
        for (int what : new int[] {-1, 7, LOWEST, HIGHEST}) {
            due(x.orderOf(0, what), INVALID);
            due(x.orderOf(1, what), INVALID);
        }
    }

    @Says("index: 0 for the one that was given first, and so on")
    private static void ordersMoveAheadWhole() {
        Subject x = new Subject();
        x.begin(7);
        x.put(A, 5);
        x.put(B, 3);
        x.order(ADD, C, A, A);
        x.mark();
        x.order(MUL, D, B, A);
        x.mark();
        x.order(SUB, E, A, C);
        due(x.tick(2), 1);
        int[][] want = {{MUL, 3, 1, 0, 1, 2, 1}, {SUB, 4, 0, 2, 1, 1, 2}};
        for (int what = 0; what <= 6; what++) {
            due(x.orderOf(0, what), want[0][what]);
            due(x.orderOf(1, what), want[1][what]);
            due(x.orderOf(2, what), INVALID);
        }
        due(x.tick(1), 1);
        due(x.orderOf(0, 0), MUL);
        due(x.orderOf(0, 5), 1);
        due(x.orderOf(1, 0), INVALID);
        due(x.tick(1), 1);
        due(x.orderOf(0, 0), INVALID);
    }

    @Says("NOT_FOUND for 5 if it has not begun.")
    private static void whenAnOrderIsDue() {
        Subject x = new Subject();
        x.put(A, 5);
        x.order(MUL, B, A, A);
        due(x.orderOf(0, 4), 0);
        due(x.orderOf(0, 5), MISSING);
        for (int ticks = 3; ticks >= 1; ticks--) {
            x.tick(1);
            due(x.orderOf(0, 4), 1);
            due(x.orderOf(0, 5), ticks);
        }
        x.tick(1);
        due(x.orderOf(0, 5), INVALID);
    }

    @Says("what: 0: 0 add, 1 sub, 2 mul; 1: the chair of its version; 2, 3: the chairs of the versions that it reads")
    private static void numbersOfEachOrder() {
        Subject x = new Subject();
        x.begin(7);
        x.put(A, 5);
        x.put(B, 3);
        x.order(SUB, C, B, A);
        x.order(MUL, D, A, C);
        x.mark();
        x.order(ADD, E, B, B);
        x.tick(1);
        int[][] want = {{SUB, 2, 1, 0, 1, 1, 0}, {MUL, 3, 0, 2, 0, MISSING, 0}, {ADD, 4, 1, 1, 1, 1, 1}};
        for (int index = 0; index < 3; index++) {
            for (int what = 0; what <= 6; what++) {
                due(x.orderOf(index, what), want[index][what]);
            }
        }
    }

    // ---- count

    @Says("INVALID_ARGUMENT if what is out of range.")
    private static void noSuchNumber() {
        Subject x = new Subject();
        furnish(x);
        for (int what : new int[] {-1, 12, 13, 15, 18, 19, 24, 25, 100, LOWEST, HIGHEST}) {
            due(x.count(what), INVALID);
        }
    }

    @Says("0: chairs; 1: free chairs; 2: names that sit; 3: orders that are not done; 4: of these, those that have begun")
    private static void numbersOfAFurnishedRoom() {
        Subject x = new Subject();
        furnish(x);
        int[] want = {7, 2, 5, 2, 1, 0, 1, 1, 0, 0, 4, 15};
        for (int what = 0; what <= 11; what++) {
            due(x.count(what), want[what]);
        }
        int[] settings = {1, 3, 2, 2};
        for (int what = 20; what <= 23; what++) {
            due(x.count(what), settings[what - 20]);
        }
    }

    @Says("8: how often a version was sent out so far; 9: how often a name sat down so far, as one that is read")
    private static void howOftenSomethingHappened() {
        Subject x = new Subject();
        fill(x, 3);
        x.put(D, 13);
        due(x.count(8), 1);
        due(x.count(9), 0);
        x.order(ADD, D, A, E);
        due(x.count(8), 3);
        due(x.count(9), 2);
        x.copy(F, A);
        due(x.count(9), 2);
        x.tick(4);
        x.copy(G, H);
        due(x.count(8), 4);
        due(x.count(9), 3);
        x.undo();
        due(x.count(8), 3);
        due(x.count(9), 2);
    }

    @Says("5: orders that were done so far; 6: the time; 7: marks")
    private static void ordersDoneTimeAndMarks() {
        Subject x = new Subject();
        x.put(A, 5);
        for (int times = 0; times <= 3; times++) {
            due(x.count(5), times);
            due(x.count(6), 2 * times);
            due(x.count(7), times);
            x.order(ADD, B, A, A);
            x.tick(2);
            x.mark();
        }
        due(x.count(7), 3);
    }

    @Says("10: states in the history; 11: the length of the text; 20 to 23: the settings 0 to 3")
    private static void historyTextAndSettings() {
        Subject x = new Subject();
        x.set(0, 6);
        x.set(1, 7);
        x.set(2, 8);
        due(x.count(10), 3);
        x.set(3, 1);
        x.typeAll("mark");
        due(x.count(10), 4);
        due(x.count(11), 4);
        due(x.count(20), 6);
        due(x.count(21), 7);
        due(x.count(22), 8);
        due(x.count(23), 1);
    }

    // ---- sends

    @Says("Tells how many versions would be sent out by an order. name: 0 to 7, that which is written one: 0 to 7 other: 0 to 7")
    private static void namesOfASupposedOrder() {
        for (int name : NO_NAMES) {
            refused(after(DocTest::furnish), x -> x.sends(name, A, B), INVALID);
            refused(after(DocTest::furnish), x -> x.sends(A, name, B), INVALID);
            refused(after(DocTest::furnish), x -> x.sends(A, B, name), INVALID);
        }
        Subject x = new Subject();
        due(x.sends(A, H, A), 0);
        due(x.sends(H, A, H), 0);
    }

    @Says("Returns how many; .. NOT_POSSIBLE if there are not chairs enough.")
    private static void noneToThreeWouldBeSentOut() {
        Subject x = new Subject();
        fill(x, 3);
        due(x.sends(A, B, C), 0);
        due(x.sends(A, A, B), 1);
        due(x.sends(D, A, B), 1);
        due(x.sends(A, B, D), 1);
        due(x.sends(A, D, E), 2);
        due(x.sends(D, A, E), 2);
        due(x.sends(D, E, E), 2);
        due(x.sends(D, E, F), 3);
        due(x.sends(D, D, E), 3);
        due(x.sends(D, D, D), 2);
        due(x.count(8), 0);
        due(x.order(ADD, D, E, F), 2);
        due(x.count(8), 3);
    }

    @Says("Tells how many versions would be sent out by an order.")
    private static void whatWasSentOutBeforeIsNotCounted() {
        Subject x = new Subject();
        fill(x, 3);
        x.put(D, 13);
        x.put(E, 14);
        x.put(F, 15);
        due(x.count(8), 3);
        due(x.sends(G, D, E), 1);
        due(x.sends(G, E, F), 1);
        due(x.sends(G, A, B), 3);
        due(x.sends(F, D, E), 0);
        due(x.order(ADD, G, E, F), 0);
        due(x.count(8), 4);
    }

    @Says("Tells how many versions would be sent out by an order.")
    private static void noChairsForASupposedOrder() {
        for (int marked = 1; marked <= 3; marked++) {
            Subject x = new Subject();
            x.begin(3);
            for (int name = 0; name < marked; name++) {
                x.put(name, name);
            }
            x.mark();
            for (int name = marked; name < 3; name++) {
                x.put(name, name);
            }
            due(x.sends(D, E, F), IMPOSSIBLE);
            due(x.sends(D, E, E), marked == 1 ? 2 : IMPOSSIBLE);
            due(x.sends(D, A, A), marked < 3 ? 1 : IMPOSSIBLE);
            due(x.sends(C, A, B), marked < 3 ? 0 : IMPOSSIBLE);
            due(x.count(9), 0);
        }
    }

    @Says("Tells how many versions would be sent out by an order.")
    private static void aSupposedOrderIsNotGiven() {
        Steps full = x -> fill(x, 4);
        changesNothing(after(full), x -> x.sends(E, F, G), 3);
        changesNothing(after(full), x -> x.sends(A, B, C), 0);
        changesNothing(after(DocTest::furnish), x -> x.sends(F, G, H), 1);
        changesNothing(after(DocTest::furnish), x -> x.sends(F, A, B), 0);
    }

    // ---- idleIn and knownIn

    @Says("Returns the ticks, 0 if there is none now.")
    private static void idleNow() {
        Subject x = new Subject();
        due(x.idleIn(), 0);
        x.put(A, 5);
        x.copy(C, B);
        due(x.idleIn(), 0);
        x.order(ADD, D, A, A);
        due(x.idleIn(), 2);
        x.tick(1);
        due(x.idleIn(), 1);
        x.tick(1);
        due(x.idleIn(), 0);
    }

    @Says("Tells in how many ticks no order would be left that is not done, if nothing else happened.")
    private static void ticksOfTheLongestRowOfOrders() {
        Subject x = new Subject();
        x.begin(7);
        x.set(1, 9);
        x.set(2, 9);
        for (int i = 0; i < 6; i++) {
            x.order(MUL, A, A, A);
            due(x.idleIn(), 9 + 9 * (i + 1));
        }
        due(x.tick(62), 5);
        due(x.idleIn(), 1);
        due(x.tick(1), 1);
    }

    @Says("Tells in how many ticks no order would be left that is not done, if nothing else happened.")
    private static void onlySomeBeginInATick() {
        Subject x = new Subject();
        x.begin(7);
        x.set(3, 1);
        x.put(A, 5);
        for (int name = B; name <= G; name++) {
            x.order(ADD, name, A, A);
        }
        due(x.idleIn(), 7);
        x.set(3, 3);
        due(x.idleIn(), 3);
        x.set(3, 2);
        due(x.idleIn(), 4);
        due(x.knownIn(G), 4);
        due(x.knownIn(B), 2);
    }

    @Says("Returns the ticks, 0 if it is known now")
    private static void knownNow() {
        Subject x = new Subject();
        due(x.knownIn(A), 0);
        x.put(A, 5);
        due(x.knownIn(A), 0);
        x.set(2, 0);
        x.copy(B, C);
        due(x.knownIn(B), 0);
        x.set(2, 1);
        x.copy(D, E);
        due(x.knownIn(D), 1);
        x.tick(1);
        due(x.knownIn(D), 0);
    }

    @Says("Tells in how many ticks the value of a name would be known, if nothing else happened.")
    private static void ticksOfTheLongestRowOfValues() {
        Subject x = new Subject();
        x.begin(7);
        x.set(1, 9);
        x.set(2, 9);
        for (int name = A; name <= E; name++) {
            x.order(MUL, name, name == A ? H : name - 1, name == A ? H : name - 1);
        }
        due(x.knownIn(H), 9);
        for (int name = A; name <= E; name++) {
            due(x.knownIn(name), 18 + 9 * name);
        }
        due(x.tick(53), 4);
        due(x.nameOf(E, 0), MISSING);
        due(x.knownIn(E), 1);
        due(x.tick(1), 1);
        due(x.nameOf(E, 0), 0);
    }

    @Says("Tells in how many ticks the value of a name would be known, if nothing else happened. name: 0 to 7")
    private static void namesThatAreKnownOrNot() {
        Subject x = new Subject();
        x.copy(A, H);
        due(x.knownIn(A), 2);
        due(x.knownIn(H), 2);
        for (int name : NO_NAMES) {
            refused(after(DocTest::furnish), y -> y.knownIn(name), INVALID);
        }
    }

    @Says("if nothing else happened.")
    private static void forecastsChangeNothing() {
        changesNothing(after(DocTest::furnish), x -> x.idleIn(), 4);
        changesNothing(after(DocTest::furnish), x -> x.knownIn(D), 3);
        changesNothing(after(DocTest::furnish), x -> x.knownIn(E), 4);
        changesNothing(after(DocTest::furnish), x -> x.knownIn(H), 0);
    }

    @Says("what there is.")
    private static void questionsChangeNothing() {
        changesNothing(after(DocTest::furnish), x -> x.nameOf(A, 4), 9);
        changesNothing(after(DocTest::furnish), x -> x.chairOf(0, 5), 0);
        changesNothing(after(DocTest::furnish), x -> x.orderOf(0, 5), 3);
        changesNothing(after(DocTest::furnish), x -> x.count(1), 2);
        changesNothing(after(DocTest::furnish), x -> x.markOf(0, A, 0), 0);
    }
}
