/** Which version is sent out when no chair is free, and which of two goes first. */
public final class SendingTests extends DocTest {
    public static void main(String[] args) throws IllegalAccessException {
        run(SendingTests.class);
    }

    // ---- when one is sent out, and what becomes of its names

    @Says("If none is free, a version is sent out")
    private static void nothingIsSentOutWhileAChairIsFree() {
        Subject x = new Subject();
        x.begin(3);
        x.put(A, 1);
        x.put(B, 2);
        due(x.put(C, 3), 2);
        due(x.count(8), 0);
        due(x.put(D, 4), 0);
        due(x.count(8), 1);
        due(x.put(D, 5), 0);
        due(x.count(8), 1);
    }

    @Says("If none is free, a version is sent out")
    private static void forWhoSitsDownAndForAnOrderToo() {
        Subject x = new Subject();
        fill(x, 3);
        due(x.copy(E, D), 0);
        due(x.count(8), 1);
        fill(x, 3);
        due(x.order(ADD, D, E, F), 2);
        due(x.nameOf(E, 1), 0);
        due(x.nameOf(F, 1), 1);
        due(x.count(8), 3);
        due(x.count(9), 2);
    }

    @Says("the names that have it stand then, and their home values become its value.")
    private static void oneNameIsSentOut() {
        Subject x = new Subject();
        fill(x, 3);
        x.put(D, 13);
        due(x.nameOf(A, 1), MISSING);
        due(x.nameOf(A, 2), 10);
        due(x.nameOf(A, 0), 10);
        due(x.nameOf(B, 1), 1);
        due(x.nameOf(B, 2), 0);
        due(x.nameOf(D, 2), 0);
        due(x.nameOf(H, 2), 0);
        due(x.count(2), 3);
    }

    @Says("the names that have it stand then, and their home values become its value.")
    private static void allNamesOfAVersionAreSentOut() {
        Subject x = new Subject();
        x.begin(3);
        x.put(A, 9999);
        for (int name = D; name <= H; name++) {
            x.copy(name, A);
        }
        x.put(B, 1);
        x.put(C, 2);
        due(x.count(2), 8);
        due(x.put(H, 3), 0);
        due(x.count(8), 1);
        due(x.count(2), 3);
        due(x.nameOf(A, 2), 9999);
        for (int name = D; name <= G; name++) {
            due(x.nameOf(name, 1), MISSING);
            due(x.nameOf(name, 2), 9999);
        }
        due(x.nameOf(H, 2), 0);
    }

    @Says("their home values become its value.")
    private static void theHomeValueOfAResult() {
        Subject x = new Subject();
        x.begin(3);
        x.put(A, 1);
        x.order(SUB, B, C, A);
        x.tick(9);
        due(x.nameOf(B, 0), 9999);
        due(x.nameOf(B, 2), 0);
        x.put(A, 2);
        x.copy(D, C);
        due(x.put(E, 3), 2);
        due(x.nameOf(B, 2), 9999);
        due(x.nameOf(B, 0), 9999);
    }

    // ---- what is not sent out

    @Says("of those that are known")
    private static void whatIsNotKnownIsNotSentOut() {
        Subject x = new Subject();
        x.begin(3);
        x.copy(B, A);
        x.put(C, 1);
        x.put(D, 2);
        due(x.put(E, 3), 1);
        x.tick(1);
        due(x.put(F, 4), 2);
        x.tick(1);
        due(x.put(G, 5), 0);
        due(x.nameOf(A, 1), MISSING);
        due(x.nameOf(B, 1), MISSING);
        due(x.nameOf(C, 2), 1);
    }

    @Says("of those .. that no mark remembers")
    private static void whatAMarkRemembersIsNotSentOut() {
        Subject x = new Subject();
        x.begin(3);
        x.put(A, 1);
        x.mark();
        x.mark();
        x.put(B, 2);
        x.put(C, 3);
        due(x.put(D, 4), 1);
        x.keep();
        due(x.put(E, 5), 2);
        x.keep();
        due(x.put(F, 6), 0);
        due(x.nameOf(A, 2), 1);
    }

    @Says("of those .. that no order that is not done reads")
    private static void whatAnOrderReadsIsNotSentOut() {
        for (int first = 0; first < 2; first++) {
            Subject x = new Subject();
            x.begin(5);
            x.put(A, 1);
            x.put(B, 2);
            due(first == 0 ? x.order(ADD, C, A, B) : x.order(ADD, C, B, A), 2);
            x.put(D, 4);
            x.put(E, 5);
            due(x.put(F, 6), 3);
            x.tick(1);
            due(x.put(G, 7), 4);
            x.tick(1);
            due(x.put(H, 8), 0);
            due(x.put(A, 9), 1);
        }
    }

    @Says("of those .. that are not of an order that is not done")
    private static void whatAnOrderMakesIsNotSentOut() {
        Subject x = new Subject();
        x.begin(4);
        x.put(A, 1);
        x.order(ADD, B, A, A);
        x.copy(C, A);
        x.put(D, 4);
        x.put(E, 5);
        due(x.put(F, 6), 2);
        x.tick(2);
        due(x.put(G, 7), 1);
        due(x.nameOf(B, 2), 2);
    }

    @Says("of those .. that none of the names has that are read by the order that is given")
    private static void whatTheOrderItselfReadsIsNotSentOut() {
        Subject x = new Subject();
        fill(x, 3);
        due(x.order(ADD, D, A, A), 1);
        fill(x, 3);
        due(x.order(ADD, D, A, B), 2);
        fill(x, 3);
        due(x.order(ADD, D, B, A), 2);
        fill(x, 3);
        due(x.order(ADD, D, C, A), 1);
        fill(x, 3);
        due(x.order(ADD, D, C, B), 0);
    }

    @Says("that none of the names has that are read by the order that is given")
    private static void whatIsReadSecondIsNotSentOutForTheFirst() {
        Subject x = new Subject();
        fill(x, 3);
        due(x.order(ADD, D, E, A), 2);
        due(x.nameOf(E, 1), 1);
        due(x.nameOf(A, 1), 0);
        due(x.count(8), 2);
        fill(x, 3);
        due(x.order(ADD, D, A, E), 2);
        due(x.nameOf(E, 1), 1);
        due(x.nameOf(A, 1), 0);
        due(x.count(8), 2);
    }

    @Says("that none of the names has that are read by the order that is given")
    private static void whatSatDownForTheOrderIsNotSentOut() {
        Subject x = new Subject();
        x.set(2, 0);
        fill(x, 3);
        due(x.order(ADD, D, E, F), 2);
        due(x.nameOf(E, 1), 0);
        due(x.nameOf(F, 1), 1);
        due(x.order(ADD, D, E, F), IMPOSSIBLE);
        refused(after(y -> {
            y.set(2, 0);
            y.begin(3);
            y.put(A, 1);
            y.mark();
        }), y -> y.order(ADD, D, E, F), IMPOSSIBLE);
    }

    @Says("To put a value into a name likewise")
    private static void putReadsNoName() {
        Subject x = new Subject();
        fill(x, 3);
        due(x.put(D, 1), 0);
        due(x.put(D, 2), 0);
        due(x.put(A, 3), 1);
        due(x.put(B, 4), 2);
    }

    // ---- the one that was used longest ago

    @Says("A version was used when it was made")
    private static void aVersionOfAValueWasUsedWhenItWasMade() {
        Subject x = new Subject();
        fill(x, 3);
        x.put(A, 20);
        due(x.put(D, 1), 1);
        due(x.put(E, 2), 2);
        due(x.put(F, 3), 0);
    }

    @Says("A version was used when it was made")
    private static void aVersionOfANameThatSatDownWasUsedWhenItWasMade() {
        Subject x = new Subject();
        x.begin(3);
        x.copy(B, A);
        x.put(C, 1);
        x.put(D, 2);
        x.tick(2);
        due(x.put(E, 3), 0);
        x.begin(3);
        x.put(C, 1);
        x.copy(B, A);
        x.put(D, 2);
        x.tick(2);
        due(x.put(E, 3), 0);
        due(x.put(F, 4), 1);
        due(x.put(G, 4), 2);
    }

    @Says("A version was used when it was made")
    private static void aVersionOfAnOrderWasNotUsedWhenItWasDone() {
        Subject x = new Subject();
        x.begin(4);
        x.put(A, 1);
        x.order(ADD, B, A, A);
        x.put(C, 2);
        x.tick(2);
        x.put(D, 3);
        due(x.put(E, 4), 0);
        due(x.put(F, 5), 1);
        due(x.put(G, 6), 2);
        due(x.put(H, 7), 3);
    }

    @Says("A version was used .. when a name got it")
    private static void aCopyIsAUse() {
        Subject x = new Subject();
        fill(x, 3);
        x.copy(D, A);
        due(x.put(E, 1), 1);
        x.copy(F, C);
        due(x.put(G, 2), 0);
        due(x.put(H, 3), 1);
        due(x.put(A, 4), 2);
    }

    @Says("A version was used .. when an order that reads it was given")
    private static void toBeReadIsAUse() {
        for (int first = 0; first < 2; first++) {
            Subject x = new Subject();
            fill(x, 4);
            due(first == 0 ? x.order(ADD, D, A, C) : x.order(ADD, D, C, A), 3);
            x.tick(2);
            due(x.put(E, 1), 1);
            due(x.put(F, 2), 0);
            due(x.put(G, 3), 2);
            due(x.put(H, 4), 3);
        }
    }

    @Says("when an order that reads it was given")
    private static void whenAnOrderBeginsOrIsDoneIsNoUse() {
        Subject x = new Subject();
        fill(x, 4);
        x.order(MUL, D, A, A);
        x.put(B, 1);
        x.put(C, 2);
        x.tick(9);
        due(x.put(E, 3), 0);
        due(x.put(F, 3), 3);
        due(x.put(G, 3), 1);
    }

    @Says("(going back to a mark is no use)")
    private static void goingBackIsNoUse() {
        Subject x = new Subject();
        fill(x, 3);
        x.put(A, 20);
        x.mark();
        x.back(0);
        due(x.put(D, 1), 1);
        due(x.put(E, 2), 2);
        due(x.put(F, 3), 0);
    }

    @Says("(going back to a mark is no use)")
    private static void usesSinceTheMarkStay() {
        Subject x = new Subject();
        fill(x, 3);
        x.mark();
        x.copy(D, A);
        x.back(0);
        due(x.nameOf(D, 1), MISSING);
        due(x.put(E, 1), 1);
        due(x.put(F, 2), 2);
        due(x.put(G, 3), 0);
    }

    @Says("A version was used when it was made, when a name got it, and when an order that reads it was given")
    private static void marksKeepsTicksAndSettingsAreNoUse() {
        Subject x = new Subject();
        fill(x, 3);
        x.put(A, 20);
        x.mark();
        x.keep();
        x.tick(3);
        x.set(0, 4);
        x.nameOf(B, 0);
        x.sends(D, B, B);
        x.chairOf(1, 0);
        due(x.put(D, 1), 1);
    }

    @Says("of two that were last used by the same call .. the one on the lower chair is sent out.")
    private static void theLowerChairOfTwoThatAnOrderRead() {
        for (int first = 0; first < 2; first++) {
            Subject x = new Subject();
            fill(x, 4);
            due(first == 0 ? x.order(ADD, D, C, B) : x.order(ADD, D, B, C), 3);
            x.tick(2);
            due(x.put(E, 1), 0);
            due(x.put(F, 2), 1);
            due(x.put(G, 3), 2);
            due(x.put(H, 4), 3);
        }
    }

    @Says("of two that were last used by the same call .. the one on the lower chair is sent out.")
    private static void theLowerChairOfOneReadAndOneMade() {
        Subject x = new Subject();
        fill(x, 3);
        x.copy(A, C);
        due(x.order(ADD, D, B, B), 0);
        x.tick(2);
        due(x.put(E, 1), 2);
        due(x.put(F, 2), 0);
        due(x.nameOf(D, 2), 22);
        due(x.put(G, 3), 1);
    }

    @Says("of two that were last used by the same call .. the one on the lower chair is sent out.")
    private static void theLowerChairOfTwoThatSatDown() {
        Subject x = new Subject();
        x.begin(4);
        due(x.order(ADD, A, C, B), 2);
        x.tick(3);
        x.put(D, 1);
        due(x.put(E, 2), 0);
        due(x.nameOf(C, 1), MISSING);
        due(x.put(F, 3), 1);
        due(x.put(G, 4), 2);
        due(x.put(H, 5), 3);
    }

    @Says("of two that were last used by the same .. (or command of a text)")
    private static void commandsOfOneTextAreToldApart() {
        Subject x = new Subject();
        x.begin(3);
        x.typeAll("put a 1;put b 2;put c 3;put a 4;");
        due(x.play(), 4);
        due(x.put(D, 1), 1);
        due(x.put(E, 2), 2);
        due(x.put(F, 3), 0);
    }

    @Says("of two that were last used by the same .. (or command of a text) the one on the lower chair is sent out.")
    private static void usesOfOneCommandAreTheSame() {
        Subject x = new Subject();
        x.begin(4);
        x.typeAll("put a 1;put b 2;put c 3;put a 4;sub d c b;tick 2;");
        due(x.play(), 6);
        due(x.put(E, 1), 0);
        due(x.put(F, 2), 1);
        due(x.put(G, 3), 2);
        due(x.put(H, 4), 3);
    }

    @Says("of two that were last used by the same call (or command of a text)")
    private static void usesInATextAreLaterThanThoseBefore() {
        Subject x = new Subject();
        fill(x, 3);
        x.typeAll("copy d a;");
        due(x.play(), 1);
        x.copy(E, B);
        due(x.put(F, 1), 2);
        due(x.put(G, 2), 0);
        due(x.put(H, 3), 1);
    }

    @Says("the one that was used longest ago")
    private static void usesThatWereUndoneAreNone() {
        Subject x = new Subject();
        fill(x, 3);
        x.copy(D, A);
        x.undo();
        due(x.put(E, 1), 0);
        x.copy(F, B);
        x.undo();
        x.copy(F, C);
        due(x.put(G, 1), 1);
        due(x.put(H, 2), 0);
    }
}
