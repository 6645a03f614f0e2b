/** Marks, going back to them, keeping; the promises 8 to 11. */
public final class MarkTests extends DocTest {
    private static final int[] NO_MARKS = {-1, 3, 4, LOWEST, HIGHEST};

    public static void main(String[] args) throws IllegalAccessException {
        run(MarkTests.class);
    }

    private static Steps marked(int marks) {
        return x -> {
            furnish(x);
            while (marks < x.count(7)) {
                x.keep();
            }
            while (marks > x.count(7)) {
                x.mark();
            }
        };
    }

    // ---- mark

    @Says("Returns its number: how many were there; LIMIT_REACHED if there are 3.")
    private static void noneToThreeMarks() {
        Subject x = new Subject();
        for (int marks = 0; marks < 3; marks++) {
            due(x.count(7), marks);
            due(x.mark(), marks);
        }
        due(x.count(7), 3);
        due(x.mark(), LIMIT);
        due(x.count(7), 3);
    }

    @Says("At most 3 marks are there.")
    private static void aFourthMark() {
        refused(after(marked(3)), Subject::mark, LIMIT);
        Subject x = new Subject();
        x.mark();
        x.mark();
        x.mark();
        due(x.keep(), 2);
        due(x.mark(), 2);
        due(x.mark(), LIMIT);
        due(x.back(2), 0);
        due(x.mark(), 2);
        due(x.mark(), LIMIT);
    }

    @Says("A mark remembers for all names whether they sit, their versions, and their home values.")
    private static void aMarkRemembersAllNames() {
        Subject x = new Subject();
        fill(x, 7);
        x.put(H, 17);
        x.mark();
        x.copy(G, B);
        x.put(H, 9);
        x.put(A, 8);
        for (int name = B; name <= G; name++) {
            due(x.markOf(0, name, 0), name);
            due(x.markOf(0, name, 1), 0);
        }
        due(x.markOf(0, H, 0), 0);
        due(x.markOf(0, H, 1), 0);
        due(x.markOf(0, A, 0), MISSING);
        due(x.markOf(0, A, 1), 10);
    }

    @Says("A mark remembers for all names whether they sit, their versions, and their home values.")
    private static void threeMarksRememberOnTheirOwn() {
        Subject x = new Subject();
        x.mark();
        x.put(A, 1);
        x.mark();
        x.put(A, 2);
        x.mark();
        x.put(A, 3);
        due(x.markOf(0, A, 0), MISSING);
        due(x.markOf(1, A, 0), 0);
        due(x.markOf(2, A, 0), 1);
        due(x.chairOf(0, 2), 2);
        due(x.chairOf(1, 2), 4);
        due(x.chairOf(2, 2), 0);
        due(x.back(1), 0);
        due(x.nameOf(A, 0), 1);
        due(x.back(0), 0);
        due(x.nameOf(A, 1), MISSING);
    }

    // ---- markOf

    @Says("Returns what a mark remembers of a name. mark: its number")
    private static void noSuchMarkToAsk() {
        for (int marks = 0; marks <= 3; marks++) {
            Subject x = new Subject();
            x.put(A, 5);
            for (int i = 0; i < marks; i++) {
                x.mark();
            }
            for (int mark = 0; mark < 3; mark++) {
                due(x.markOf(mark, A, 0), mark < marks ? 0 : INVALID);
                due(x.markOf(mark, A, 1), mark < marks ? 0 : INVALID);
            }
            for (int mark : NO_MARKS) {
                due(x.markOf(mark, A, 0), INVALID);
                due(x.markOf(mark, A, 1), INVALID);
            }
        }
    }

    @Says("name: 0 to 7 .. what: 0: the chair of its version; 1: its home value")
    private static void edgesOfWhatIsAskedOfAMark() {
        Subject x = new Subject();
        x.put(A, 5);
        x.put(H, 6);
        x.mark();
        due(x.markOf(0, A, 0), 0);
        due(x.markOf(0, H, 0), 1);
        for (int name : NO_NAMES) {
            due(x.markOf(0, name, 0), INVALID);
            due(x.markOf(0, name, 1), INVALID);
        }
        for (int what : new int[] {-1, 2, LOWEST, HIGHEST}) {
            due(x.markOf(0, A, what), INVALID);
            due(x.markOf(0, B, what), INVALID);
        }
    }

    @Says("NOT_FOUND for 0 if it stood.")
    private static void whoStoodAtAMark() {
        Subject x = new Subject();
        x.mark();
        x.put(A, 5);
        due(x.markOf(0, A, 0), MISSING);
        due(x.markOf(0, A, 1), 0);
        x.mark();
        due(x.markOf(1, A, 0), 0);
    }

    // ---- keep

    @Says("Returns how many marks are left; NOT_POSSIBLE if there is none.")
    private static void keepThreeToNoMarks() {
        Subject x = new Subject();
        x.mark();
        x.mark();
        x.mark();
        due(x.keep(), 2);
        due(x.keep(), 1);
        due(x.keep(), 0);
        due(x.keep(), IMPOSSIBLE);
        due(x.count(7), 0);
    }

    @Says("NOT_POSSIBLE if there is none.")
    private static void keepWithoutMarks() {
        refused(Subject::new, Subject::keep, IMPOSSIBLE);
        refused(after(marked(0)), Subject::keep, IMPOSSIBLE);
    }

    @Says("the first mark is gone; the others have numbers that are less by 1 then.")
    private static void theOthersMoveAhead() {
        Subject x = new Subject();
        x.put(A, 1);
        x.mark();
        x.put(A, 2);
        x.mark();
        x.put(A, 3);
        x.mark();
        x.put(A, 4);
        due(x.keep(), 2);
        due(x.markOf(0, A, 0), 1);
        due(x.markOf(1, A, 0), 2);
        due(x.markOf(2, A, 0), INVALID);
        due(x.chairOf(1, 2), 1);
        due(x.chairOf(2, 2), 2);
        due(x.back(1), 0);
        due(x.nameOf(A, 0), 3);
        due(x.back(0), 0);
        due(x.nameOf(A, 0), 2);
    }

    @Says("To keep means that the first mark is gone, and nothing else changes")
    private static void namesAndOrdersStay() {
        Subject x = new Subject();
        x.begin(7);
        x.put(A, 1);
        x.mark();
        x.order(ADD, B, A, A);
        x.put(C, 3);
        x.tick(1);
        due(x.keep(), 0);
        due(x.count(3), 1);
        due(x.orderOf(0, 4), 1);
        due(x.nameOf(A, 0), 1);
        due(x.nameOf(C, 0), 3);
        due(x.count(6), 1);
        due(x.tick(1), 1);
        due(x.nameOf(B, 0), 2);
    }

    @Says("nothing else changes (but versions may be not needed any more).")
    private static void whatTheFirstMarkAloneRemembered() {
        Subject x = new Subject();
        x.put(A, 1);
        x.put(B, 2);
        x.mark();
        x.put(A, 3);
        x.mark();
        x.put(B, 4);
        due(x.count(1), 1);
        due(x.keep(), 1);
        due(x.chairOf(0, 1), MISSING);
        due(x.chairOf(1, 2), 1);
        due(x.count(1), 2);
        due(x.keep(), 0);
        due(x.chairOf(1, 1), MISSING);
        due(x.count(1), 3);
    }

    @Says("6: how many marks were there when it was given and are there still")
    private static void marksOfOrdersAfterKeepsAndNewMarks() {
        Subject x = new Subject();
        x.begin(7);
        x.put(A, 1);
        x.order(MUL, B, A, A);
        x.mark();
        x.order(MUL, C, A, A);
        x.mark();
        x.order(MUL, D, A, A);
        x.mark();
        x.order(MUL, E, A, A);
        for (int index = 0; index < 4; index++) {
            due(x.orderOf(index, 6), index);
        }
        x.keep();
        for (int index = 0; index < 4; index++) {
            due(x.orderOf(index, 6), index == 0 ? 0 : index - 1);
        }
        x.mark();
        for (int index = 0; index < 4; index++) {
            due(x.orderOf(index, 6), index == 0 ? 0 : index - 1);
        }
        due(x.back(1), 1);
        due(x.orderOf(2, 6), 1);
        due(x.orderOf(3, 6), INVALID);
        due(x.keep(), 0);
        due(x.orderOf(2, 6), 0);
        due(x.mark(), 0);
        due(x.back(0), 0);
        due(x.count(3), 3);
    }

    @Says("6: how many marks were there when it was given and are there still")
    private static void everyOrderWasGivenAfterAMark() {
        Subject x = new Subject();
        x.begin(7);
        x.put(A, 1);
        x.mark();
        x.order(MUL, B, A, A);
        x.mark();
        x.order(MUL, C, A, A);
        x.order(MUL, D, A, A);
        int[] marks = {1, 2, 2};
        for (int keeps = 0; keeps <= 2; keeps++) {
            for (int index = 0; index < 3; index++) {
                due(x.orderOf(index, 6), Math.max(0, marks[index] - keeps));
            }
            due(x.keep(), keeps == 2 ? IMPOSSIBLE : 1 - keeps);
        }
        x.mark();
        due(x.back(0), 0);
        due(x.count(3), 3);
    }

    // ---- back

    @Says("Goes back to a mark. mark: its number")
    private static void noSuchMarkToGoBackTo() {
        for (int marks = 0; marks <= 3; marks++) {
            int none = marks;
            refused(after(marked(marks)), x -> x.back(none), INVALID);
            for (int mark : NO_MARKS) {
                refused(after(marked(marks)), x -> x.back(mark), INVALID);
            }
        }
    }

    @Says("this mark and those behind it are gone.")
    private static void marksThatAreGone() {
        for (int mark = 0; mark < 3; mark++) {
            Subject x = new Subject();
            x.mark();
            x.mark();
            x.mark();
            due(x.back(mark), 0);
            due(x.count(7), mark);
            due(x.markOf(mark, A, 1), INVALID);
            due(x.back(mark), INVALID);
            due(x.mark(), mark);
        }
    }

    @Says("all names are as it remembers")
    private static void namesAreAsAMarkRemembers() {
        Subject x = new Subject();
        fill(x, 3);
        x.put(D, 13);
        x.copy(E, D);
        x.mark();
        due(x.put(B, 20), IMPOSSIBLE);
        x.copy(B, C);
        x.copy(C, D);
        x.copy(A, D);
        due(x.back(0), 0);
        due(x.nameOf(A, 1), MISSING);
        due(x.nameOf(A, 2), 10);
        due(x.nameOf(B, 0), 11);
        due(x.nameOf(C, 0), 12);
        due(x.nameOf(D, 0), 13);
        due(x.nameOf(E, 3), 2);
    }

    @Says("A mark remembers .. their home values.")
    private static void homeValuesAreAsAMarkRemembers() {
        Subject x = new Subject();
        x.begin(4);
        x.put(A, 1);
        x.mark();
        x.put(B, 2);
        x.put(C, 3);
        x.put(D, 4);
        x.put(E, 5);
        x.put(F, 6);
        due(x.nameOf(B, 2), 2);
        due(x.nameOf(C, 2), 3);
        due(x.back(0), 0);
        due(x.nameOf(B, 2), 0);
        due(x.nameOf(C, 2), 0);
        due(x.nameOf(B, 0), 0);
        due(x.count(1), 3);
        due(x.count(8), 2);
    }

    @Says("all orders that were given since are gone (their versions, too)")
    private static void ordersGivenSinceAreGone() {
        Subject x = new Subject();
        x.begin(7);
        x.put(A, 1);
        x.order(MUL, B, A, A);
        x.mark();
        x.order(MUL, C, A, B);
        x.mark();
        x.order(MUL, D, A, C);
        x.order(MUL, D, A, A);
        due(x.count(1), 2);
        due(x.back(1), 2);
        due(x.count(3), 2);
        due(x.count(1), 4);
        due(x.chairOf(3, 4), MISSING);
        due(x.chairOf(4, 4), MISSING);
        due(x.back(0), 1);
        due(x.count(3), 1);
        due(x.chairOf(2, 4), MISSING);
        due(x.orderOf(0, 1), 1);
        due(x.tick(9), 1);
    }

    @Says("all orders that were given since are gone")
    private static void ordersThatAreGoneDoNotBegin() {
        Subject x = new Subject();
        x.set(3, 1);
        x.put(A, 1);
        x.mark();
        x.order(ADD, B, A, A);
        x.order(ADD, C, A, A);
        due(x.back(0), 2);
        due(x.order(ADD, D, E, E), 2);
        due(x.tick(1), 0);
        due(x.orderOf(0, 4), 0);
        due(x.count(4), 0);
        due(x.tick(1), 0);
        due(x.orderOf(0, 4), 1);
        due(x.tick(1), 1);
    }

    @Says("all orders that were given since are gone")
    private static void allSixOrdersAreGone() {
        Subject x = new Subject();
        x.begin(7);
        x.put(A, 1);
        x.mark();
        for (int i = 0; i < 6; i++) {
            x.order(ADD, A, A, A);
        }
        due(x.back(0), 6);
        due(x.count(3), 0);
        due(x.count(1), 6);
        due(x.nameOf(A, 0), 1);
        due(x.idleIn(), 0);
    }

    @Says("all orders that were given since are gone")
    private static void ordersOfBeforeGoOn() {
        Subject x = new Subject();
        x.put(A, 6);
        x.order(MUL, B, A, A);
        x.tick(1);
        x.mark();
        x.tick(1);
        x.put(B, 1);
        due(x.back(0), 0);
        due(x.orderOf(0, 5), 2);
        due(x.nameOf(B, 0), MISSING);
        due(x.tick(2), 1);
        due(x.nameOf(B, 0), 36);
    }

    @Says("Returns how many orders that were not done are gone")
    private static void ordersThatWereDoneSince() {
        Subject x = new Subject();
        x.begin(7);
        x.put(A, 6);
        x.order(ADD, B, A, A);
        x.mark();
        x.order(ADD, C, A, A);
        x.order(MUL, D, A, A);
        due(x.tick(2), 2);
        due(x.back(0), 1);
        due(x.nameOf(B, 0), 12);
        due(x.nameOf(C, 1), MISSING);
        due(x.count(5), 2);
        due(x.count(3), 0);
        due(x.count(6), 2);
        due(x.count(1), 5);
    }

    @Says("To go back to a mark means: all names are as it remembers")
    private static void timeAndCountsDoNotGoBack() {
        Subject x = new Subject();
        x.begin(3);
        x.mark();
        x.put(A, 1);
        x.put(B, 2);
        x.copy(D, C);
        x.put(E, 3);
        x.tick(7);
        x.set(0, 4);
        due(x.back(0), 0);
        due(x.count(6), 7);
        due(x.count(8), 1);
        due(x.count(9), 1);
        due(x.count(20), 4);
        due(x.count(2), 0);
    }

    @Says("A mark remembers .. whether they sit, their versions")
    private static void aVersionThatIsKnownLaterThanTheMark() {
        Subject x = new Subject();
        x.copy(B, A);
        x.order(ADD, C, A, A);
        x.mark();
        x.put(A, 7);
        x.put(C, 8);
        due(x.tick(3), 1);
        due(x.back(0), 0);
        due(x.nameOf(A, 0), 0);
        due(x.nameOf(C, 0), 0);
        due(x.nameOf(C, 1), 1);
        due(x.nameOf(A, 3), 2);
    }
}
