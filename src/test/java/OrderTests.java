/** What an order is: its result, its steps, and promise 5. */
public final class OrderTests extends DocTest {
    private static final int[] NO_ORDERS = {-1, 3, LOWEST, HIGHEST};

    public static void main(String[] args) throws IllegalAccessException {
        run(OrderTests.class);
    }

    // ---- results

    /** The result of an order, as it is told before the order is done and after. */
    private static void result(int what, int one, int other, int want) {
        Subject x = new Subject();
        x.put(A, one);
        x.put(B, other);
        due(x.order(what, C, A, B), 2);
        due(x.nameOf(C, 4), want);
        due(x.nameOf(C, 0), MISSING);
        due(x.tick(4), 1);
        due(x.nameOf(C, 0), want);
        due(x.nameOf(C, 4), want);
        due(x.chairOf(2, 0), want);
    }

    @Says("add (0) makes their sum")
    private static void sumsOfUpToFourDigits() {
        result(ADD, 0, 0, 0);
        result(ADD, 3, 4, 7);
        result(ADD, 9998, 1, 9999);
        result(ADD, 0, 9999, 9999);
        result(ADD, 9999, 0, 9999);
    }

    @Says("sub (1) their difference")
    private static void differencesFromZero() {
        result(SUB, 7, 4, 3);
        result(SUB, 5, 5, 0);
        result(SUB, 0, 0, 0);
        result(SUB, 9999, 0, 9999);
        result(SUB, 9999, 9999, 0);
    }

    @Says("mul (2) their product")
    private static void productsOfUpToFourDigits() {
        result(MUL, 0, 9999, 0);
        result(MUL, 9999, 1, 9999);
        result(MUL, 99, 101, 9999);
        result(MUL, 3, 7, 21);
    }

    @Says("of the result the last four decimal digits are taken")
    private static void sumsOfFiveDigits() {
        result(ADD, 9999, 1, 0);
        result(ADD, 5000, 5000, 0);
        result(ADD, 9999, 2, 1);
        result(ADD, 9999, 9999, 9998);
    }

    @Says("of the result the last four decimal digits are taken")
    private static void productsOfMoreThanFourDigits() {
        result(MUL, 100, 100, 0);
        result(MUL, 73, 137, 1);
        result(MUL, 9999, 9999, 1);
        result(MUL, 9999, 2, 9998);
        result(MUL, 9876, 9873, 5748);
    }

    @Says("of a difference below 0 behind 10000 is added")
    private static void differencesBelowZero() {
        result(SUB, 0, 1, 9999);
        result(SUB, 4, 7, 9997);
        result(SUB, 0, 9999, 1);
        result(SUB, 9998, 9999, 9999);
    }

    @Says("the value that it will have when all orders are done and all who sit down sit")
    private static void resultsOfResults() {
        Subject x = new Subject();
        x.begin(7);
        x.put(A, 9999);
        x.order(ADD, B, A, A);
        x.order(MUL, B, B, B);
        x.order(SUB, B, C, B);
        due(x.nameOf(B, 4), 9996);
        x.tick(9);
        due(x.nameOf(B, 0), 9996);
        due(x.nameOf(C, 0), 0);
    }

    @Says("what: 0 add, 1 sub, 2 mul")
    private static void noSuchKindOfOrder() {
        for (int what : NO_ORDERS) {
            refused(after(DocTest::furnish), x -> x.order(what, F, A, B), INVALID);
        }
        Subject x = new Subject();
        x.put(A, 8);
        x.put(B, 3);
        due(x.order(2, C, A, B), 2);
        due(x.order(0, D, A, B), 3);
        due(x.order(1, E, A, B), 4);
        due(x.nameOf(C, 4), 24);
        due(x.nameOf(D, 4), 11);
        due(x.nameOf(E, 4), 5);
    }

    @Says("name: 0 to 7, that which is written")
    private static void namesThatAnOrderWrites() {
        for (int name : NO_NAMES) {
            refused(after(DocTest::furnish), x -> x.order(ADD, name, A, B), INVALID);
        }
        for (int name : new int[] {A, H}) {
            Subject x = new Subject();
            x.put(B, 4);
            due(x.order(ADD, name, B, B), 1);
            due(x.nameOf(name, 4), 8);
        }
    }

    @Says("one: 0 to 7, that which is read first")
    private static void namesThatAnOrderReadsFirst() {
        for (int name : NO_NAMES) {
            refused(after(DocTest::furnish), x -> x.order(ADD, A, name, B), INVALID);
        }
        for (int name : new int[] {A, H}) {
            Subject x = new Subject();
            x.put(name, 4);
            x.put(B, 1);
            due(x.order(SUB, C, name, B), 2);
            due(x.nameOf(C, 4), 3);
        }
    }

    @Says("other: 0 to 7, that which is read second")
    private static void namesThatAnOrderReadsSecond() {
        for (int name : NO_NAMES) {
            refused(after(DocTest::furnish), x -> x.order(ADD, A, B, name), INVALID);
        }
        for (int name : new int[] {A, H}) {
            Subject x = new Subject();
            x.put(name, 4);
            x.put(B, 1);
            due(x.order(SUB, C, B, name), 2);
            due(x.nameOf(C, 4), 9997);
        }
    }

    // ---- step 1

    @Says("If the name that is written is none of those that are read, it gives up its version (if it has one).")
    private static void theWrittenNameGivesUpItsVersion() {
        Subject x = new Subject();
        fill(x, 3);
        due(x.order(ADD, C, A, B), 2);
        due(x.count(8), 0);
        due(x.nameOf(C, 4), 21);
        due(x.nameOf(C, 2), 0);
    }

    @Says("it gives up its version (if it has one).")
    private static void theWrittenNameStands() {
        Subject x = new Subject();
        x.begin(3);
        x.put(A, 5);
        x.put(B, 6);
        due(x.order(ADD, C, A, B), 2);
        due(x.count(8), 0);
        due(x.count(9), 0);
    }

    @Says("If the name that is written is none of those that are read, it gives up its version")
    private static void theWrittenNameGivesUpBeforeTheOthersSitDown() {
        Subject x = new Subject();
        x.put(A, 5);
        due(x.order(ADD, A, B, C), 2);
        due(x.nameOf(B, 1), 0);
        due(x.nameOf(C, 1), 1);
        due(x.count(1), 2);
        fill(x, 3);
        due(x.order(ADD, A, B, D), 2);
        due(x.nameOf(D, 1), 0);
        due(x.nameOf(C, 1), MISSING);
        due(x.count(8), 1);
    }

    @Says("If the name that is written is none of those that are read, it gives up its version")
    private static void theWrittenNameSharesItsVersion() {
        Subject x = new Subject();
        fill(x, 3);
        x.copy(D, C);
        due(x.order(ADD, D, A, B), 2);
        due(x.count(8), 1);
        due(x.nameOf(C, 1), MISSING);
        due(x.nameOf(C, 2), 12);
        due(x.nameOf(D, 2), 0);
    }

    @Says("If the name that is written is none of those that are read, it gives up its version")
    private static void aWrittenNameThatIsReadKeepsItsVersionForTheOrder() {
        for (int first = 0; first < 2; first++) {
            Subject x = new Subject();
            fill(x, 3);
            due(first == 0 ? x.order(SUB, A, A, B) : x.order(SUB, A, B, A), 2);
            due(x.count(8), 1);
            due(x.nameOf(C, 1), MISSING);
            due(x.nameOf(A, 4), first == 0 ? 9999 : 1);
            due(x.chairOf(0, 3), 1);
            due(x.chairOf(0, 1), 0);
        }
    }

    // ---- step 2

    @Says("Each of the names that are read, the first one first, that stands sits down")
    private static void theFirstOneSitsDownFirst() {
        Subject x = new Subject();
        due(x.order(ADD, A, C, B), 2);
        due(x.nameOf(C, 1), 0);
        due(x.nameOf(B, 1), 1);
        due(x.count(9), 2);
        due(x.orderOf(0, 2), 0);
        due(x.orderOf(0, 3), 1);
    }

    @Says("Each of the names that are read .. that stands sits down")
    private static void onlyWhoStandsSitsDown() {
        Subject x = new Subject();
        x.put(A, 5);
        x.put(B, 6);
        x.order(ADD, C, A, B);
        due(x.count(9), 0);
        x.order(ADD, C, A, D);
        due(x.count(9), 1);
        x.begin(5);
        x.put(A, 5);
        due(x.order(ADD, C, D, A), 2);
        due(x.nameOf(D, 1), 1);
        due(x.count(9), 1);
    }

    @Says("An order reads two names (perhaps the same)")
    private static void oneNameIsReadTwice() {
        Subject x = new Subject();
        x.put(A, 9);
        due(x.order(MUL, B, A, A), 1);
        due(x.nameOf(B, 4), 81);
        due(x.chairOf(0, 3), 1);
        due(x.order(ADD, D, C, C), 3);
        due(x.count(9), 1);
        due(x.nameOf(C, 1), 2);
    }

    @Says("it gets a new version, which has its home value")
    private static void whoSitsDownHasTheHomeValue() {
        Subject x = new Subject();
        fill(x, 3);
        x.put(D, 13);
        due(x.nameOf(A, 2), 10);
        due(x.order(ADD, D, A, A), 1);
        due(x.nameOf(A, 1), 0);
        due(x.nameOf(A, 0), MISSING);
        due(x.nameOf(D, 4), 20);
        x.tick(2);
        due(x.nameOf(A, 0), 10);
        due(x.nameOf(A, 2), 10);
    }

    @Says("is known so many ticks later as the setting 2 tells (with 0 at once).")
    private static void sittingDownAtOnce() {
        Subject x = new Subject();
        x.set(2, 0);
        x.order(ADD, B, A, A);
        due(x.nameOf(A, 0), 0);
        due(x.knownIn(A), 0);
        due(x.chairOf(0, 0), 0);
        x.tick(1);
        due(x.orderOf(0, 4), 1);
        due(x.copy(D, C), 2);
        due(x.nameOf(D, 0), 0);
    }

    @Says("is known so many ticks later as the setting 2 tells")
    private static void sittingDownInOneToNineTicks() {
        for (int ticks = 1; ticks <= 9; ticks++) {
            Subject x = new Subject();
            x.tick(3);
            x.set(2, ticks);
            x.order(ADD, B, A, C);
            due(x.knownIn(A), ticks);
            due(x.nameOf(A, 0), MISSING);
            if (ticks > 1) {
                x.tick(ticks - 1);
                due(x.nameOf(A, 0), MISSING);
                due(x.chairOf(0, 0), MISSING);
                due(x.nameOf(C, 0), MISSING);
            }
            x.tick(1);
            due(x.nameOf(A, 0), 0);
            due(x.chairOf(0, 0), 0);
            due(x.nameOf(C, 0), 0);
        }
    }

    // ---- step 3

    @Says("The order reads the versions that the names that are read have now.")
    private static void theNamesAreWrittenAgainBeforeTheOrderIsDone() {
        Subject x = new Subject();
        x.put(A, 5);
        x.put(B, 3);
        x.order(SUB, C, A, B);
        x.put(A, 100);
        x.copy(B, A);
        due(x.orderOf(0, 2), 0);
        due(x.orderOf(0, 3), 1);
        x.tick(2);
        due(x.nameOf(C, 0), 2);
    }

    @Says("writes one (perhaps one of these)")
    private static void oneOfTheReadNamesIsWritten() {
        Subject x = new Subject();
        x.begin(7);
        x.put(A, 5);
        x.put(B, 3);
        due(x.order(SUB, A, A, B), 2);
        due(x.nameOf(A, 4), 2);
        due(x.order(SUB, B, A, B), 3);
        due(x.nameOf(B, 4), 9999);
        due(x.order(MUL, B, B, B), 4);
        due(x.nameOf(B, 4), 1);
        due(x.tick(9), 3);
        due(x.nameOf(A, 0), 2);
        due(x.nameOf(B, 0), 1);
    }

    @Says("The name that is written gets a new version (in place of the one that it has, if it has one)")
    private static void aNameThatSitsDownAndIsWritten() {
        Subject x = new Subject();
        due(x.order(ADD, A, A, B), 2);
        due(x.nameOf(A, 1), 2);
        due(x.chairOf(0, 1), 0);
        due(x.chairOf(0, 3), 1);
        due(x.count(9), 2);
        due(x.count(2), 2);
        x.tick(3);
        due(x.chairOf(0, 3), MISSING);
    }

    @Says("gets a new version (in place of the one that it has, if it has one)")
    private static void othersKeepTheVersionOfTheWrittenName() {
        Subject x = new Subject();
        x.put(A, 5);
        x.copy(B, A);
        due(x.order(ADD, A, A, A), 1);
        due(x.chairOf(0, 1), 2);
        due(x.nameOf(B, 0), 5);
        due(x.nameOf(A, 3), 1);
        x.tick(2);
        due(x.chairOf(0, 0), 5);
    }

    @Says("which is known when the order is done.")
    private static void theVersionIsKnownWhenTheOrderIsDone() {
        Subject x = new Subject();
        x.put(A, 5);
        x.order(MUL, B, A, A);
        for (int ticks = 0; ticks < 4; ticks++) {
            due(x.nameOf(B, 0), MISSING);
            due(x.chairOf(1, 0), MISSING);
            due(x.knownIn(B), 4 - ticks);
            due(x.tick(1), ticks == 3 ? 1 : 0);
        }
        due(x.nameOf(B, 0), 25);
        due(x.chairOf(1, 0), 25);
        due(x.knownIn(B), 0);
    }

    // ---- chairs for it

    @Says("Each new version comes onto the lowest free chair.")
    private static void theLowestFreeChair() {
        Subject x = new Subject();
        fill(x, 7);
        x.copy(B, A);
        x.copy(D, A);
        x.copy(F, A);
        due(x.count(1), 3);
        due(x.order(ADD, H, A, B), 1);
        due(x.copy(B, C), 2);
        due(x.put(B, 9), 3);
        x.begin(7);
        for (int name = A; name <= F; name++) {
            x.put(name, name);
        }
        x.copy(E, A);
        x.copy(C, A);
        due(x.order(ADD, C, G, H), 6);
        due(x.nameOf(G, 1), 2);
        due(x.nameOf(H, 1), 4);
    }

    @Says("Returns the chair of the new version")
    private static void theChairThatIsReturned() {
        Subject x = new Subject();
        x.begin(7);
        for (int name = A; name <= E; name++) {
            due(x.order(ADD, name, H, G), 2 + name);
            due(x.orderOf(name, 1), 2 + name);
            due(x.nameOf(name, 1), 2 + name);
        }
    }

    @Says("If there is no such version, the order cannot be given.")
    private static void noChairForTheFirstName() {
        refused(after(x -> {
            fill(x, 3);
            x.mark();
        }), x -> x.order(ADD, D, E, F), IMPOSSIBLE);
    }

    @Says("If there is no such version, the order cannot be given.")
    private static void noChairForTheSecondName() {
        refused(after(x -> {
            x.begin(3);
            x.put(A, 5);
            x.put(B, 6);
            x.mark();
        }), x -> x.order(ADD, D, E, F), IMPOSSIBLE);
        refused(after(x -> {
            x.begin(3);
            x.put(A, 5);
            x.put(B, 6);
            x.mark();
            x.put(C, 7);
        }), x -> x.order(ADD, C, E, F), IMPOSSIBLE);
    }

    @Says("If there is no such version, the order cannot be given.")
    private static void noChairForTheVersionOfTheOrder() {
        refused(after(x -> {
            x.begin(3);
            x.put(A, 5);
            x.mark();
            x.put(B, 6);
            x.put(C, 7);
        }), x -> x.order(ADD, B, E, F), IMPOSSIBLE);
        refused(after(x -> {
            x.begin(3);
            x.put(A, 5);
            x.mark();
            x.put(B, 6);
            x.put(C, 7);
        }), x -> x.order(ADD, D, E, F), IMPOSSIBLE);
        refused(after(x -> {
            fill(x, 3);
            x.mark();
        }), x -> x.order(ADD, A, A, B), IMPOSSIBLE);
    }

    @Says("At most 6 orders are not done.")
    private static void sixOrdersThatAreNotDone() {
        Subject x = new Subject();
        x.begin(7);
        x.put(A, 5);
        for (int i = 0; i < 6; i++) {
            due(x.count(3), i);
            due(x.order(ADD, B, A, A), i + 1);
        }
        due(x.count(3), 6);
        for (int i = 0; i < 6; i++) {
            due(x.orderOf(i, 1), i + 1);
        }
        due(x.orderOf(6, 1), INVALID);
    }

    /** Six orders that are not done hold six versions, and the first of them reads a seventh. */
    @Says("NOT_POSSIBLE if there are not chairs enough; LIMIT_REACHED if 6 orders are not done.")
    private static void aSeventhOrderHasNoChair() {
        refused(after(x -> {
            x.begin(7);
            x.put(A, 5);
            for (int i = 0; i < 6; i++) {
                x.order(ADD, A, A, A);
            }
        }), x -> x.order(ADD, A, A, A), IMPOSSIBLE);
        refused(after(x -> {
            x.begin(7);
            x.put(A, 5);
            for (int i = 0; i < 6; i++) {
                x.order(ADD, B, A, A);
            }
        }), x -> x.order(ADD, B, A, A), IMPOSSIBLE);
    }

    @Says("At most 6 orders are not done.")
    private static void anOrderAfterOneOfSixIsDone() {
        Subject x = new Subject();
        x.begin(7);
        x.put(A, 5);
        for (int i = 0; i < 6; i++) {
            x.order(ADD, A, A, A);
        }
        x.tick(1);
        due(x.order(ADD, A, A, A), IMPOSSIBLE);
        x.tick(1);
        due(x.count(3), 5);
        due(x.order(ADD, A, A, A), 0);
        due(x.count(3), 6);
        due(x.order(ADD, A, A, A), IMPOSSIBLE);
    }
}
