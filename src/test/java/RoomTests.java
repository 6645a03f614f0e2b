/** Names, chairs and versions, and the promises 1 to 4: a new object, begin, put, copy. */
public final class RoomTests extends DocTest {
    public static void main(String[] args) throws IllegalAccessException {
        run(RoomTests.class);
    }

    // ---- what there is at first

    @Says("Time is told in ticks, 0 at first.")
    private static void timeIsZeroAtFirst() {
        Subject x = new Subject();
        due(x.count(6), 0);
        due(x.tick(1), 0);
        due(x.count(6), 1);
    }

    @Says("Creates a room with 5 chairs, in which all names stand, at the time 0.")
    private static void aNewObject() {
        Subject x = new Subject();
        due(x.count(0), 5);
        due(x.count(1), 5);
        due(x.count(2), 0);
        for (int what = 3; what <= 11; what++) {
            due(x.count(what), 0);
        }
    }

    @Says("3 to 7 chairs, numbered from 0 (5 at first).")
    private static void fiveChairsAtFirst() {
        Subject x = new Subject();
        for (int chair = 0; chair < 5; chair++) {
            due(x.chairOf(chair, 1), MISSING);
            due(x.put(chair, chair), chair);
        }
        due(x.chairOf(5, 1), INVALID);
        due(x.count(1), 0);
        due(x.put(F, 5), 0);
        due(x.count(8), 1);
    }

    @Says("Each name has a home value, 0 at first; who stands has this value. At first all names stand.")
    private static void allNamesStandAtFirst() {
        Subject x = new Subject();
        for (int name = A; name <= H; name++) {
            due(x.nameOf(name, 0), 0);
            due(x.nameOf(name, 1), MISSING);
            due(x.nameOf(name, 2), 0);
            due(x.nameOf(name, 3), MISSING);
            due(x.nameOf(name, 4), 0);
        }
    }

    @Says("who stands has this value.")
    private static void whoStandsHasTheHomeValue() {
        Subject x = new Subject();
        fill(x, 3);
        x.put(D, 13);
        due(x.nameOf(A, 1), MISSING);
        due(x.nameOf(A, 2), 10);
        due(x.nameOf(A, 0), 10);
        due(x.nameOf(A, 4), 10);
        due(x.nameOf(E, 0), 0);
    }

    // ---- chairs

    @Says("3 to 7 chairs, numbered from 0")
    private static void fewestAndMostChairs() {
        for (int chairs = 3; chairs <= 7; chairs++) {
            Subject x = new Subject();
            x.begin(chairs);
            due(x.count(0), chairs);
            due(x.count(1), chairs);
            for (int chair = 0; chair < chairs; chair++) {
                due(x.put(chair, 20 + chair), chair);
            }
            due(x.count(1), 0);
            due(x.chairOf(chairs - 1, 0), 20 + chairs - 1);
            due(x.chairOf(chairs, 0), INVALID);
            due(x.put(H, 1), 0);
            due(x.count(8), 1);
        }
    }

    @Says("INVALID_ARGUMENT if chairs is out of range.")
    private static void tooFewOrTooManyChairs() {
        for (int chairs : new int[] {2, 8, 0, -1, -5, LOWEST, HIGHEST}) {
            refused(after(DocTest::furnish), x -> x.begin(chairs), INVALID);
        }
    }

    @Says("Returns how many chairs there were")
    private static void beginTellsTheChairsOfBefore() {
        Subject x = new Subject();
        due(x.begin(3), 5);
        due(x.begin(7), 3);
        due(x.begin(7), 7);
        due(x.begin(4), 7);
        due(x.begin(8), INVALID);
        due(x.begin(5), 4);
    }

    @Says("Begins anew: all names stand with the home value 0, there are no orders and marks")
    private static void beginEmptiesTheRoom() {
        Subject x = new Subject();
        fill(x, 4);
        x.put(E, 14);
        x.mark();
        x.mark();
        x.order(ADD, F, E, E);
        due(x.begin(4), 4);
        for (int name = A; name <= H; name++) {
            due(x.nameOf(name, 1), MISSING);
            due(x.nameOf(name, 2), 0);
        }
        for (int chair = 0; chair < 4; chair++) {
            due(x.chairOf(chair, 1), MISSING);
        }
        due(x.count(3), 0);
        due(x.orderOf(0, 0), INVALID);
        due(x.count(7), 0);
        due(x.markOf(0, A, 1), INVALID);
        due(x.keep(), IMPOSSIBLE);
        due(x.tick(9), 0);
    }

    @Says("the time and all that is counted so far are 0")
    private static void beginCountsAnew() {
        Subject x = new Subject();
        fill(x, 3);
        x.put(D, 1);
        x.order(ADD, E, D, D);
        x.tick(5);
        x.copy(F, G);
        due(x.count(5), 1);
        due(x.count(6), 5);
        due(x.count(8), 3);
        due(x.count(9), 1);
        x.begin(3);
        due(x.count(5), 0);
        due(x.count(6), 0);
        due(x.count(8), 0);
        due(x.count(9), 0);
    }

    @Says("the settings and the history stay.")
    private static void beginLeavesSettingsAndHistory() {
        Subject x = new Subject();
        x.set(0, 9);
        x.set(1, 1);
        x.set(2, 0);
        x.begin(3);
        due(x.count(20), 9);
        due(x.count(21), 1);
        due(x.count(22), 0);
        due(x.count(23), 2);
        due(x.count(10), 4);
        due(x.undo(), 3);
        due(x.count(0), 5);
        due(x.undo(), 2);
        due(x.count(22), 2);
    }

    @Says("Begins anew: all names stand with the home value 0, there are no orders and marks")
    private static void beginLeavesTheText() {
        Subject x = new Subject();
        x.typeAll("mark;");
        x.play();
        x.begin(7);
        due(x.count(11), 5);
        due(x.fault(0), MISSING);
        due(x.play(), 1);
        due(x.count(7), 1);
    }

    // ---- versions

    @Says("it is on a chair of its own.")
    private static void eachVersionHasAChairOfItsOwn() {
        Subject x = new Subject();
        x.put(A, 5);
        due(x.put(B, 5), 1);
        due(x.order(ADD, C, A, B), 2);
        due(x.order(ADD, D, A, B), 3);
        due(x.chairOf(0, 1), 1);
        due(x.chairOf(1, 1), 2);
        due(x.count(1), 1);
    }

    @Says("A name sits if it has a version, and otherwise stands.")
    private static void noneToAllNamesSit() {
        Subject x = new Subject();
        due(x.count(2), 0);
        x.put(A, 5);
        due(x.count(2), 1);
        for (int name = B; name <= H; name++) {
            x.copy(name, A);
            due(x.count(2), name + 1);
            due(x.nameOf(name, 1), 0);
        }
    }

    @Says("Several names can have the same version.")
    private static void allNamesHaveOneVersion() {
        Subject x = new Subject();
        x.put(A, 5);
        due(x.nameOf(A, 3), 1);
        for (int name = B; name <= H; name++) {
            due(x.copy(name, A), 0);
        }
        due(x.nameOf(A, 3), 8);
        due(x.nameOf(H, 3), 8);
        due(x.chairOf(0, 1), 255);
        due(x.count(1), 4);
    }

    @Says("A version is needed as long as a name has it")
    private static void theLastNameGivesItsVersionUp() {
        Subject x = new Subject();
        x.put(A, 5);
        x.copy(B, A);
        x.put(C, 6);
        x.copy(A, C);
        due(x.chairOf(0, 1), 2);
        due(x.count(1), 3);
        x.copy(B, C);
        due(x.chairOf(0, 1), MISSING);
        due(x.count(1), 4);
    }

    @Says("A version is needed as long as .. a mark remembers it")
    private static void theLastMarkForgetsAVersion() {
        Subject x = new Subject();
        x.put(A, 5);
        x.mark();
        x.mark();
        x.put(A, 6);
        due(x.chairOf(0, 1), 0);
        due(x.chairOf(0, 0), 5);
        x.keep();
        due(x.chairOf(0, 0), 5);
        x.keep();
        due(x.chairOf(0, 0), MISSING);
        due(x.count(1), 4);
        due(x.put(B, 7), 0);
    }

    @Says("A version is needed as long as .. an order that is not done yet reads it")
    private static void theLastOrderThatReadsAVersionIsDone() {
        Subject x = new Subject();
        x.put(A, 5);
        x.order(ADD, B, A, A);
        x.order(MUL, C, A, A);
        x.put(A, 6);
        due(x.chairOf(0, 1), 0);
        x.tick(2);
        due(x.chairOf(0, 3), 1);
        x.tick(1);
        due(x.chairOf(0, 0), 5);
        x.tick(1);
        due(x.chairOf(0, 0), MISSING);
        due(x.count(1), 2);
    }

    @Says("A version is needed as long as .. its own order is not done yet.")
    private static void anOrderIsDoneWhoseVersionNobodyHas() {
        Subject x = new Subject();
        x.put(A, 5);
        due(x.order(ADD, B, A, A), 1);
        due(x.put(B, 6), 2);
        due(x.chairOf(1, 1), 0);
        due(x.tick(1), 0);
        due(x.chairOf(1, 4), 1);
        due(x.tick(1), 1);
        due(x.chairOf(1, 4), MISSING);
        due(x.put(C, 7), 1);
    }

    @Says("As soon as a version is not needed any more, it is gone, and its chair is free.")
    private static void aChairIsFreeWithinTheSameCall() {
        Subject x = new Subject();
        fill(x, 3);
        due(x.put(B, 9), 1);
        due(x.order(ADD, C, A, B), 2);
        due(x.count(8), 0);
        due(x.count(1), 0);
        x.tick(2);
        x.typeAll("put a 1;put a 2;add c a b;");
        due(x.play(), 3);
        due(x.count(8), 0);
        due(x.nameOf(A, 1), 0);
        due(x.nameOf(C, 1), 2);
    }

    // ---- put

    @Says("Values are 0 to 9999.")
    private static void leastAndMostValue() {
        Subject x = new Subject();
        due(x.put(A, 9999), 0);
        due(x.nameOf(A, 0), 9999);
        due(x.put(A, 0), 0);
        due(x.nameOf(A, 0), 0);
        for (int value : new int[] {-1, 10000, LOWEST, HIGHEST}) {
            refused(after(DocTest::furnish), y -> y.put(A, value), INVALID);
        }
    }

    @Says("There are the names a to h, told as 0 to 7")
    private static void firstAndLastNameOfPut() {
        Subject x = new Subject();
        due(x.put(A, 1), 0);
        due(x.put(H, 2), 1);
        due(x.nameOf(A, 0), 1);
        due(x.nameOf(H, 0), 2);
        for (int name : NO_NAMES) {
            refused(after(DocTest::furnish), y -> y.put(name, 1), INVALID);
        }
    }

    @Says("it gives up its version, and gets a new one, which is known at once.")
    private static void putGivesUpAndIsKnownAtOnce() {
        Subject x = new Subject();
        x.set(2, 9);
        due(x.put(A, 5), 0);
        due(x.nameOf(A, 0), 5);
        due(x.knownIn(A), 0);
        x.copy(B, C);
        due(x.put(B, 6), 2);
        due(x.knownIn(B), 0);
        due(x.put(C, 7), 1);
        due(x.count(9), 1);
        due(x.nameOf(A, 2), 0);
    }

    @Says("it gives up its version, and gets a new one")
    private static void putOfANameWhoseVersionIsNeededStill() {
        Subject x = new Subject();
        x.begin(3);
        x.put(A, 5);
        x.copy(B, A);
        x.put(C, 6);
        x.put(D, 7);
        due(x.put(B, 8), 0);
        due(x.nameOf(A, 1), MISSING);
        due(x.nameOf(A, 0), 5);
        due(x.nameOf(B, 2), 0);
        due(x.nameOf(B, 0), 8);
    }

    @Says("NOT_POSSIBLE if there is no chair for it.")
    private static void noChairForPut() {
        refused(after(x -> {
            fill(x, 3);
            x.mark();
        }), x -> x.put(D, 1), IMPOSSIBLE);
        refused(after(x -> {
            fill(x, 3);
            x.mark();
        }), x -> x.put(A, 1), IMPOSSIBLE);
        refused(after(x -> {
            x.begin(3);
            x.put(A, 5);
            x.order(ADD, B, A, A);
            x.copy(C, D);
        }), x -> x.put(E, 1), IMPOSSIBLE);
    }

    @Says("Puts a value into a name. name: 0 to 7 value: 0 to 9999 Returns the chair of its version")
    private static void putReturnsTheChair() {
        Subject x = new Subject();
        x.begin(7);
        for (int chair = 0; chair < 7; chair++) {
            due(x.put(H - chair, chair), chair);
            due(x.nameOf(H - chair, 1), chair);
        }
        x.copy(E, D);
        due(x.put(A, 9), 3);
        due(x.nameOf(A, 1), 3);
    }

    // ---- copy

    @Says("name: 0 to 7, that which is written .. from: 0 to 7, another one")
    private static void firstAndLastNamesOfCopy() {
        Subject x = new Subject();
        x.put(A, 5);
        due(x.copy(H, A), 0);
        due(x.copy(A, H), 0);
        due(x.chairOf(0, 1), 129);
        for (int name : NO_NAMES) {
            refused(after(DocTest::furnish), y -> y.copy(name, A), INVALID);
            refused(after(DocTest::furnish), y -> y.copy(A, name), INVALID);
            refused(after(DocTest::furnish), y -> y.copy(name, name), INVALID);
        }
    }

    @Says("INVALID_ARGUMENT if an argument is out of range or both are the same")
    private static void copyToItself() {
        for (int name : new int[] {A, B, H}) {
            refused(after(DocTest::furnish), x -> x.copy(name, name), INVALID);
        }
    }

    @Says("if the name that is read stands, it sits down as told")
    private static void copyOfANameThatStands() {
        Subject x = new Subject();
        due(x.copy(B, A), 0);
        due(x.count(9), 1);
        due(x.nameOf(A, 1), 0);
        due(x.nameOf(B, 1), 0);
        due(x.nameOf(B, 0), MISSING);
        due(x.knownIn(B), 2);
        x.tick(2);
        due(x.nameOf(B, 0), 0);
    }

    @Says("if the name that is read stands, it sits down")
    private static void copyOfANameThatSits() {
        Subject x = new Subject();
        x.put(A, 5);
        due(x.copy(B, A), 0);
        due(x.count(9), 0);
        due(x.nameOf(B, 0), 5);
        x.order(ADD, C, A, A);
        due(x.copy(D, C), 1);
        due(x.nameOf(D, 0), MISSING);
        due(x.count(9), 0);
    }

    @Says("then the other name gives up its version and has that of the first one, too.")
    private static void copyGivesUpAfterTheOtherSatDown() {
        Subject x = new Subject();
        fill(x, 3);
        due(x.copy(C, D), 0);
        due(x.nameOf(A, 1), MISSING);
        due(x.chairOf(2, 1), MISSING);
        due(x.count(1), 1);
        due(x.chairOf(0, 1), 12);
        due(x.nameOf(C, 2), 0);
        fill(x, 3);
        x.put(B, 21);
        x.put(C, 22);
        due(x.copy(A, D), 0);
        due(x.nameOf(A, 2), 10);
        due(x.count(8), 1);
        due(x.count(1), 0);
    }

    @Says("NOT_POSSIBLE if there is no chair for it.")
    private static void noChairForCopy() {
        refused(after(x -> {
            fill(x, 3);
            x.mark();
        }), x -> x.copy(A, D), IMPOSSIBLE);
        refused(after(x -> {
            x.begin(3);
            x.put(A, 5);
            x.put(B, 6);
            x.mark();
            x.order(ADD, C, A, A);
        }), x -> x.copy(C, D), IMPOSSIBLE);
        Subject x = new Subject();
        fill(x, 3);
        x.mark();
        due(x.copy(D, A), 0);
        due(x.copy(B, A), 0);
        due(x.chairOf(1, 1), 0);
    }
}
