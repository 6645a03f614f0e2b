/** The promises one by one: ordinary inputs, the edges that the document names, wrong inputs. */
public final class PromiseTests {
    private static final int INVALID = -1;
    private static final int IMPOSSIBLE = -2;
    private static final int LIMIT = -3;
    private static final int MISSING = -4;
    private static final int[] NO_NAMES = {-1, 8, Integer.MIN_VALUE, Integer.MAX_VALUE};
    private static final int ADD = 0;
    private static final int SUB = 1;
    private static final int MUL = 2;
    private static final int A = 0;
    private static final int B = 1;
    private static final int C = 2;
    private static final int D = 3;
    private static final int E = 4;
    private static final int F = 5;

    private static String promise = "";

    private static void due(String call, int got, int want) {
        Checks.due(promise + ": " + call, got, want);
    }

    /** A call that returns an error changes nothing; the caller makes it between before and this. */
    private static void unchanged(Subject x, String before) {
        Checks.same(promise + ": after an error", x.all(), before);
    }

    public static void main(String[] args) {
        promise1NewObject();
        promise2Begin();
        promise3Put();
        promise3LongestUnusedIsSentOut();
        promise3WhatIsNotSentOut();
        promise4Copy();
        promise4CopyWithoutFreeChairs();
        promise5Order();
        promise5SittingDown();
        promise5SendingOut();
        promise5Errors();
        promise6Tick();
        promise6Beginning();
        promise6LastTime();
        promise7Set();
        promise8Mark();
        promise9Keep();
        promise10Back();
        promise11MarkOf();
        promise12NameOf();
        promise13ChairOf();
        promise14OrderOf();
        promise15Count();
        promise16Sends();
        promise17IdleIn();
        promise18KnownIn();
        promise19Undo();
        promise20Type();
        promise21ClearText();
        promise22Fault();
        promise22Forms();
        promise23Play();
        promise23UsesByCommand();
        Checks.end("PromiseTests");
    }

    private static void promise1NewObject() {
        promise = "1";
        Subject x = new Subject();
        int[] counts = {5, 5, 0, 0, 0, 0, 0, 0, 0, 0, 0, 0};
        for (int i = 0; i < counts.length; i++) {
            due("count(" + i + ")", x.count(i), counts[i]);
        }
        int[] settings = {1, 3, 2, 2};
        for (int i = 0; i < 4; i++) {
            due("count(" + (20 + i) + ")", x.count(20 + i), settings[i]);
        }
        for (int name = 0; name < 8; name++) {
            due("value", x.nameOf(name, 0), 0);
            due("chair", x.nameOf(name, 1), MISSING);
            due("home", x.nameOf(name, 2), 0);
        }
        for (int chair = 0; chair < 5; chair++) {
            due("chair", x.chairOf(chair, 1), MISSING);
        }
        due("a sixth chair", x.chairOf(5, 1), INVALID);
    }

    private static void promise2Begin() {
        promise = "2";
        Subject x = new Subject();
        for (int chairs : new int[] {2, 8, 0, -1, Integer.MIN_VALUE, Integer.MAX_VALUE}) {
            String before = x.all();
            due("begin(" + chairs + ")", x.begin(chairs), INVALID);
            unchanged(x, before);
        }
        due("begin(7)", x.begin(7), 5);
        due("begin(3)", x.begin(3), 7);
        x.set(2, 5);
        x.put(A, 7);
        x.put(B, 8);
        x.order(MUL, D, A, B);
        x.tick(5);
        x.put(C, 9);
        x.put(E, 10);
        x.order(ADD, A, A, B);
        x.mark();
        x.type('m');
        due("begin(4)", x.begin(4), 3);
        int[] counts = {4, 4, 0, 0, 0, 0, 0, 0, 0, 0, 4, 1};
        for (int i = 0; i < counts.length; i++) {
            due("count(" + i + ")", x.count(i), counts[i]);
        }
        due("the setting stays", x.count(22), 5);
        for (int name = 0; name < 8; name++) {
            due("home", x.nameOf(name, 2), 0);
            due("chair", x.nameOf(name, 1), MISSING);
        }
        due("undo()", x.undo(), 3);
        due("chairs again", x.count(0), 3);
        due("orders again", x.count(3), 1);
        due("marks again", x.count(7), 1);
    }

    private static void promise3Put() {
        promise = "3";
        Subject x = new Subject();
        due("put(a, 9999)", x.put(A, 9999), 0);
        due("put(b, 0)", x.put(B, 0), 1);
        due("value", x.nameOf(A, 0), 9999);
        due("home stays", x.nameOf(A, 2), 0);
        due("put(a, 5) on the chair that became free", x.put(A, 5), 0);
        due("put(h, 1)", x.put(7, 1), 2);
        x.copy(C, A);
        due("put(a, 6), the version is c's still", x.put(A, 6), 3);
        due("c's", x.nameOf(C, 0), 5);
        due("put(c, 7) on the lowest", x.put(C, 7), 0);
        String before = x.all();
        for (int name : NO_NAMES) {
            due("put(" + name + ", 0)", x.put(name, 0), INVALID);
        }
        for (int value : new int[] {-1, 10000, Integer.MIN_VALUE, Integer.MAX_VALUE}) {
            due("put(a, " + value + ")", x.put(A, value), INVALID);
        }
        unchanged(x, before);
    }

    private static void promise3LongestUnusedIsSentOut() {
        promise = "3";
        Subject x = new Subject();
        x.begin(4);
        x.put(A, 10);
        x.put(B, 11);
        x.put(C, 12);
        x.put(D, 13);
        x.copy(F, A);
        due("b's is the oldest", x.put(E, 14), 1);
        due("b stands", x.nameOf(B, 1), MISSING);
        due("b's home", x.nameOf(B, 2), 11);
        due("b's value", x.nameOf(B, 0), 11);
        due("sent out", x.count(8), 1);
        x.mark();
        x.back(0);
        due("then c's", x.put(7, 15), 2);
        due("then d's", x.put(B, 16), 3);
        due("then a's and f's", x.put(C, 17), 0);
        due("a's home", x.nameOf(A, 2), 10);
        due("f's home", x.nameOf(F, 2), 10);
        due("f stands", x.nameOf(F, 1), MISSING);
        due("sent out", x.count(8), 4);
        due("sat down", x.count(9), 0);
    }

    private static void promise3WhatIsNotSentOut() {
        promise = "3";
        Subject x = new Subject();
        x.begin(4);
        x.put(A, 1);
        x.mark();
        x.put(B, 2);
        x.put(C, 3);
        x.order(ADD, D, B, B);
        due("what a mark remembers, and an order reads or makes, stays", x.put(E, 5), 2);
        due("c's home", x.nameOf(C, 2), 3);
        due("order(add, f, e, e)", x.order(ADD, F, E, E), IMPOSSIBLE);
        x.put(E, 6);
        x.mark();
        String before = x.all();
        due("no chair", x.put(F, 7), IMPOSSIBLE);
        due("no chair for a name that sits", x.put(A, 7), IMPOSSIBLE);
        unchanged(x, before);
        due("no chair, and a wrong value", x.put(F, 10000), INVALID);
        x.keep();
        due("the first mark is gone", x.put(F, 7), IMPOSSIBLE);
        x.keep();
        due("the second, too", x.put(F, 7), 0);
        x.set(2, 9);
        x.tick(4);
        due("copy(a, h): h sits down on b's chair", x.copy(A, 7), 1);
        due("d's", x.put(B, 8), 3);
        due("e's", x.put(C, 8), 2);
        due("f's", x.put(D, 8), 0);
        due("not h's, which is not known", x.put(E, 8), 3);
        x.tick(9);
        due("now it is", x.put(F, 8), 1);
        due("h's home", x.nameOf(7, 2), 0);
    }

    private static void promise4Copy() {
        promise = "4";
        Subject x = new Subject();
        x.put(A, 40);
        x.put(B, 41);
        due("copy(b, a)", x.copy(B, A), 0);
        due("b's old version is gone", x.chairOf(1, 1), MISSING);
        due("both have it", x.chairOf(0, 1), 3);
        due("copy(c, d), who stands", x.copy(C, D), 1);
        due("c and d have it", x.chairOf(1, 1), 12);
        due("it is not known", x.nameOf(C, 0), MISSING);
        due("d sat down", x.count(9), 1);
        x.tick(2);
        due("it is known", x.nameOf(C, 0), 0);
        due("copy(a, b) again", x.copy(A, B), 0);
        due("both have it", x.chairOf(0, 1), 3);
        String before = x.all();
        for (int name : NO_NAMES) {
            due("copy(" + name + ", a)", x.copy(name, A), INVALID);
            due("copy(a, " + name + ")", x.copy(A, name), INVALID);
        }
        due("copy(a, a)", x.copy(A, A), INVALID);
        due("copy(h, h)", x.copy(7, 7), INVALID);
        unchanged(x, before);
    }

    private static void promise4CopyWithoutFreeChairs() {
        promise = "4";
        Subject x = new Subject();
        x.begin(3);
        x.put(A, 1);
        x.put(B, 2);
        x.put(C, 3);
        x.copy(D, A);
        due("copy(b, e): b's own is sent out before b gives it up", x.copy(B, E), 1);
        due("b's home", x.nameOf(B, 2), 2);
        due("sent out", x.count(8), 1);
        due("b's value will be e's", x.nameOf(B, 4), 0);
        x.mark();
        String before = x.all();
        due("copy(a, f)", x.copy(A, F), IMPOSSIBLE);
        unchanged(x, before);
        due("copy(a, c)", x.copy(A, C), 2);
        due("copy(f, f)", x.copy(F, F), INVALID);
    }

    private static void promise5Order() {
        promise = "5";
        Subject x = new Subject();
        x.begin(7);
        x.put(A, 9999);
        x.put(B, 2);
        due("add", x.order(ADD, C, A, B), 2);
        due("sub", x.order(SUB, D, B, A), 3);
        due("mul", x.order(MUL, E, A, A), 4);
        due("no value yet", x.nameOf(C, 0), MISSING);
        due("c", x.nameOf(C, 4), 1);
        due("d", x.nameOf(D, 4), 3);
        due("e", x.nameOf(E, 4), 1);
        x.tick(9);
        due("c", x.nameOf(C, 0), 1);
        due("d", x.nameOf(D, 0), 3);
        due("e", x.nameOf(E, 0), 1);
        due("order(sub, a, a, b): the name is read", x.order(SUB, A, A, B), 5);
        due("a's old version is read still", x.chairOf(0, 3), 1);
        due("nobody has it", x.chairOf(0, 1), 0);
        x.tick(2);
        due("it is gone", x.chairOf(0, 1), MISSING);
        due("a", x.nameOf(A, 0), 9997);
        due("order(add, b, d, e): b gives up its chair ahead", x.order(ADD, B, D, E), 0);
        due("it was the second", x.chairOf(1, 1), MISSING);
        due("the chair of b", x.nameOf(B, 1), 0);
    }

    private static void promise5SittingDown() {
        promise = "5";
        Subject x = new Subject();
        x.begin(3);
        x.put(A, 5);
        x.put(B, 6);
        x.put(C, 7);
        x.put(D, 8);
        x.put(E, 9);
        due("two were sent out", x.count(8), 2);
        x.begin(5);
        due("order(add, c, a, b), all stand", x.order(ADD, C, A, B), 2);
        due("a's chair", x.nameOf(A, 1), 0);
        due("b's chair", x.nameOf(B, 1), 1);
        due("sat down", x.count(9), 2);
        due("known in", x.knownIn(A), 2);
        due("order(mul, d, e, e) reads one name twice", x.order(MUL, D, E, E), 4);
        due("sat down", x.count(9), 3);
        x.begin(5);
        x.set(2, 0);
        due("order(add, a, a, b): a sits, and has another then", x.order(ADD, A, A, B), 2);
        due("b's", x.nameOf(B, 0), 0);
        due("a's is not known", x.nameOf(A, 0), MISSING);
        x.tick(1);
        due("known reads begin at once", x.orderOf(0, 4), 1);
        due("a's first version is needed", x.chairOf(0, 3), 1);
    }

    private static void promise5SendingOut() {
        promise = "5";
        Subject x = new Subject();
        x.begin(4);
        x.put(A, 1);
        x.put(B, 2);
        x.put(C, 3);
        x.put(D, 4);
        x.order(ADD, D, B, A);
        x.tick(9);
        due("d's chair", x.nameOf(D, 1), 3);
        due("c's is the oldest", x.order(ADD, E, A, A), 2);
        x.tick(9);
        due("a and b were used by one order; then a again", x.put(F, 6), 1);
        due("b's home", x.nameOf(B, 2), 2);
        due("d's was used by the order that made it", x.put(C, 7), 3);
        due("a's and e's by the same order: the lower chair", x.put(D, 8), 0);
        due("e's", x.put(A, 9), 2);
        due("f's is the oldest, but it is read", x.order(MUL, 7, F, C), 0);
        due("d stands", x.nameOf(D, 1), MISSING);
        due("sent out", x.count(8), 6);
        bothReadAreUsed();
        x.begin(3);
        x.put(A, 1);
        x.put(B, 2);
        x.put(C, 3);
        x.copy(D, A);
        due("a gives up its version, which only d has then", x.order(ADD, A, C, B), 0);
        due("d stands", x.nameOf(D, 2), 1);
        due("a's home stays", x.nameOf(A, 2), 0);
        due("no chair", x.put(D, 4), IMPOSSIBLE);
    }

    private static void bothReadAreUsed() {
        Subject x = new Subject();
        for (int name = 0; name < 8; name += 7) {
            x.begin(3);
            x.put(name, 1);
            x.put(B, 2);
            x.put(C, 3);
            due("the oldest is read first, so the second is sent out", x.order(ADD, D, name, C), 1);
            x.begin(3);
            x.put(name, 1);
            x.put(B, 2);
            x.put(C, 3);
            due("the oldest is read second", x.order(ADD, D, B, name), 2);
        }
        x.begin(4);
        x.put(A, 1);
        x.put(B, 2);
        x.put(C, 3);
        x.order(SUB, D, C, B);
        x.tick(2);
        x.put(E, 5);
        due("a's was the oldest; b, c and d were used at once, b's chair is the lowest", x.put(F, 6), 1);
        due("then c's", x.put(7, 7), 2);
        x.begin(4);
        x.put(A, 1);
        x.put(B, 2);
        x.put(C, 3);
        x.order(SUB, D, A, B);
        x.tick(2);
        due("c's", x.put(E, 5), 2);
        due("a's", x.put(F, 6), 0);
        due("b's", x.put(C, 7), 1);
        due("d's", x.put(A, 7), 3);
    }

    private static void promise5Errors() {
        promise = "5";
        Subject x = new Subject();
        x.begin(7);
        x.put(A, 3);
        for (int i = 0; i < 6; i++) {
            due("order " + i, x.order(ADD, B, A, A), i + 1);
        }
        String before = x.all();
        due("a seventh, without a chair", x.order(ADD, C, A, A), IMPOSSIBLE);
        due("a seventh, that is no order", x.order(3, C, A, A), INVALID);
        for (int wrong : NO_NAMES) {
            due("name", x.order(ADD, wrong, A, A), INVALID);
            due("one", x.order(ADD, A, wrong, A), INVALID);
            due("other", x.order(ADD, A, A, wrong), INVALID);
        }
        due("what -1", x.order(-1, A, A, A), INVALID);
        unchanged(x, before);
        sixOrdersTakeAllChairs();
    }

    /**
     * Six orders that are not done have six versions, and the first of them reads a seventh at least:
     * with seven chairs none is left, so the limit never applies without NOT_POSSIBLE, which goes ahead.
     */
    private static void sixOrdersTakeAllChairs() {
        Subject x = new Subject();
        x.begin(7);
        x.set(2, 0);
        x.set(0, 9);
        for (int i = 0; i < 6; i++) {
            due("order " + i, x.order(ADD, A, A, A), i + 1);
        }
        due("six", x.count(3), 6);
        due("no chair is free", x.count(1), 0);
        due("no chair", x.order(ADD, A, A, A), IMPOSSIBLE);
        x.tick(10);
        due("one is done", x.count(3), 5);
        due("a chair is free", x.count(1), 1);
        due("order", x.order(ADD, B, A, A), 0);
        due("six again", x.count(3), 6);
        due("no chair", x.order(ADD, B, A, A), IMPOSSIBLE);
        due("invalid goes ahead", x.order(ADD, B, 8, A), INVALID);
    }

    private static void promise6Tick() {
        promise = "6";
        Subject x = new Subject();
        String before = x.all();
        for (int ticks : new int[] {0, -1, 100, Integer.MIN_VALUE, Integer.MAX_VALUE}) {
            due("tick(" + ticks + ")", x.tick(ticks), INVALID);
        }
        unchanged(x, before);
        due("tick(99)", x.tick(99), 0);
        due("tick(1)", x.tick(1), 0);
        due("time", x.count(6), 100);
        x.put(A, 3);
        x.put(B, 4);
        x.order(MUL, C, A, B);
        x.order(ADD, D, A, B);
        due("tick(1)", x.tick(1), 0);
        due("both have begun", x.count(4), 2);
        due("tick(1)", x.tick(1), 1);
        due("d", x.nameOf(D, 0), 7);
        due("c", x.nameOf(C, 0), MISSING);
        due("tick(1)", x.tick(1), 0);
        due("tick(1)", x.tick(1), 1);
        due("c", x.nameOf(C, 0), 12);
        due("done so far", x.count(5), 2);
        x.order(ADD, A, E, E);
        x.order(ADD, B, A, A);
        due("both in one call", x.tick(5), 2);
        x.order(ADD, F, B, B);
        x.put(F, 1);
        due("an order whose version nobody has", x.count(3), 1);
        due("its chair is not free", x.chairOf(x.orderOf(0, 1), 1), 0);
        int chair = x.orderOf(0, 1);
        due("tick(2)", x.tick(2), 1);
        due("its chair is free", x.chairOf(chair, 4), MISSING);
    }

    private static void promise6Beginning() {
        promise = "6";
        Subject x = new Subject();
        x.begin(7);
        x.put(A, 3);
        x.order(MUL, B, A, A);
        x.order(ADD, C, B, B);
        x.order(ADD, D, A, A);
        x.order(ADD, E, A, A);
        x.tick(1);
        due("the first", x.orderOf(0, 4), 1);
        due("the second waits for the first", x.orderOf(1, 4), 0);
        due("the third", x.orderOf(2, 4), 1);
        due("only two a tick", x.orderOf(3, 4), 0);
        x.tick(1);
        due("the third is done", x.count(3), 3);
        due("then the fourth", x.orderOf(2, 4), 1);
        x.set(1, 9);
        due("the first was begun with 3", x.orderOf(0, 5), 2);
        due("the fourth is done", x.tick(1), 1);
        due("the first is done and the second begins in the same tick", x.tick(1), 1);
        due("the second", x.orderOf(0, 5), 1);
        x.begin(5);
        x.order(ADD, B, A, A);
        x.tick(1);
        due("a is not known", x.orderOf(0, 4), 0);
        x.tick(1);
        due("a is known and the order begins in the same tick", x.orderOf(0, 4), 1);
        x.begin(7);
        x.put(A, 1);
        x.set(3, 3);
        for (int i = 0; i < 4; i++) {
            x.order(SUB, B, A, A);
        }
        x.tick(1);
        due("three a tick", x.count(4), 3);
        x.set(3, 1);
        x.begin(7);
        x.put(A, 1);
        x.order(SUB, B, A, A);
        x.order(SUB, C, A, A);
        x.tick(1);
        due("one a tick", x.count(4), 1);
        due("the first", x.orderOf(0, 4), 1);
    }

    private static void promise6LastTime() {
        promise = "6";
        Subject x = new Subject();
        x.typeAll("tick 99;tick 99;tick 99;tick 99;tick 99;tick 99;tick 99;tick 99;tick 99;tick 99;");
        for (int i = 0; i < 50; i++) {
            due("play()", x.play(), 10);
        }
        for (int i = 0; i < 5; i++) {
            due("tick(99)", x.tick(99), 0);
        }
        due("time", x.count(6), 49995);
        due("tick(6)", x.tick(6), LIMIT);
        due("tick(100)", x.tick(100), INVALID);
        due("fault(2)", x.fault(2), LIMIT);
        due("fault(0)", x.fault(0), 0);
        due("tick(5)", x.tick(5), 0);
        due("time", x.count(6), 50000);
        due("tick(1)", x.tick(1), LIMIT);
        x.order(ADD, B, A, A);
        due("idleIn()", x.idleIn(), 3);
        due("knownIn(b)", x.knownIn(B), 3);
        due("tick(1)", x.tick(1), LIMIT);
        x.begin(5);
        due("tick(99)", x.tick(99), 0);
    }

    private static void promise7Set() {
        promise = "7";
        int[] least = {1, 1, 0, 1};
        int[] most = {9, 9, 9, 3};
        int[] first = {1, 3, 2, 2};
        Subject x = new Subject();
        for (int what = 0; what < 4; what++) {
            due("set(" + what + ", most)", x.set(what, most[what]), first[what]);
            due("set(" + what + ", least)", x.set(what, least[what]), most[what]);
            due("set(" + what + ", first)", x.set(what, first[what]), least[what]);
            due("count", x.count(20 + what), first[what]);
            String before = x.all();
            due("below", x.set(what, least[what] - 1), INVALID);
            due("above", x.set(what, most[what] + 1), INVALID);
            due("far below", x.set(what, Integer.MIN_VALUE), INVALID);
            unchanged(x, before);
        }
        for (int what : new int[] {-1, 4, Integer.MAX_VALUE}) {
            due("set(" + what + ", 1)", x.set(what, 1), INVALID);
        }
        x.order(ADD, B, A, A);
        x.set(2, 9);
        due("who is sitting down stays so", x.knownIn(A), 2);
        x.tick(2);
        x.set(0, 9);
        due("what has begun stays so", x.orderOf(0, 5), 1);
        x.order(ADD, B, A, A);
        x.tick(1);
        due("what begins then does not", x.orderOf(0, 5), 9);
        x.order(MUL, C, A, A);
        x.set(1, 7);
        x.tick(1);
        due("nor a product", x.orderOf(1, 5), 7);
        x.set(2, 0);
        x.copy(7, 6);
        due("known at once", x.nameOf(7, 0), 0);
    }

    private static void promise8Mark() {
        promise = "8";
        Subject x = new Subject();
        x.put(A, 5);
        due("mark()", x.mark(), 0);
        x.put(A, 6);
        due("its version is needed", x.chairOf(0, 2), 1);
        due("nobody has it", x.chairOf(0, 1), 0);
        due("mark()", x.mark(), 1);
        due("mark()", x.mark(), 2);
        due("two marks", x.chairOf(1, 2), 6);
        String before = x.all();
        due("mark()", x.mark(), LIMIT);
        unchanged(x, before);
        due("marks", x.count(7), 3);
        x.back(1);
        due("mark()", x.mark(), 1);
    }

    private static void promise9Keep() {
        promise = "9";
        Subject x = new Subject();
        String before = x.all();
        due("keep()", x.keep(), IMPOSSIBLE);
        unchanged(x, before);
        x.put(A, 5);
        x.mark();
        x.order(ADD, A, A, A);
        x.mark();
        x.put(A, 7);
        x.order(ADD, B, A, A);
        x.mark();
        due("marks of the orders", x.orderOf(0, 6) * 10 + x.orderOf(1, 6), 12);
        due("keep()", x.keep(), 2);
        due("marks of the orders", x.orderOf(0, 6) * 10 + x.orderOf(1, 6), 1);
        due("the second is the first now", x.markOf(0, A, 0), 1);
        due("its version", x.chairOf(1, 2), 1);
        due("names stay", x.nameOf(A, 0), 7);
        due("orders stay", x.count(3), 2);
        x.tick(2);
        due("the first version is not needed", x.chairOf(0, 1), MISSING);
        due("back(0) to the mark that was 1", x.back(0), 0);
        due("a", x.nameOf(A, 0), 10);
        due("no mark", x.keep(), IMPOSSIBLE);
        x.mark();
        due("keep()", x.keep(), 0);
        due("keep()", x.keep(), IMPOSSIBLE);
        x.order(ADD, E, A, A);
        x.mark();
        due("keep()", x.keep(), 0);
        due("an order from before the mark", x.orderOf(0, 6), 0);
    }

    private static void promise10Back() {
        promise = "10";
        Subject x = new Subject();
        due("back(0)", x.back(0), INVALID);
        x.begin(7);
        x.put(A, 5);
        x.order(ADD, B, A, A);
        x.mark();
        x.order(ADD, C, A, B);
        x.put(A, 6);
        x.mark();
        x.order(MUL, D, A, A);
        x.put(B, 1);
        String before = x.all();
        for (int mark : new int[] {-1, 2, 3, Integer.MIN_VALUE, Integer.MAX_VALUE}) {
            due("back(" + mark + ")", x.back(mark), INVALID);
        }
        unchanged(x, before);
        due("back(1)", x.back(1), 1);
        due("orders", x.count(3), 2);
        due("marks", x.count(7), 1);
        due("a", x.nameOf(A, 0), 6);
        due("b's chair", x.nameOf(B, 1), 1);
        due("d stands", x.nameOf(D, 1), MISSING);
        x.tick(1);
        due("time", x.count(6), 1);
        due("back(0)", x.back(0), 1);
        due("the time stays", x.count(6), 1);
        due("a", x.nameOf(A, 0), 5);
        due("c stands", x.nameOf(C, 1), MISSING);
        due("the order of before is there", x.orderOf(0, 4), 1);
        due("tick(1)", x.tick(1), 1);
        due("b", x.nameOf(B, 0), 10);
        due("back(0)", x.back(0), INVALID);
        homesAndUsesOfGoingBack();
    }

    private static void homesAndUsesOfGoingBack() {
        Subject x = new Subject();
        x.begin(4);
        x.put(A, 1);
        x.put(B, 2);
        x.put(C, 3);
        x.mark();
        x.put(D, 4);
        x.put(E, 5);
        due("d's home", x.nameOf(D, 2), 4);
        x.order(ADD, F, A, A);
        x.tick(2);
        due("back(0)", x.back(0), 0);
        due("d's home again", x.nameOf(D, 2), 0);
        due("done so far", x.count(5), 1);
        due("sent out so far", x.count(8), 2);
        due("put(d, 4)", x.put(D, 4), 3);
        due("a's was used by the order that is gone, b's not, and going back is no use", x.put(E, 5), 1);
        due("then c's", x.put(F, 5), 2);
        due("then a's", x.put(7, 5), 0);
    }

    private static void promise11MarkOf() {
        promise = "11";
        Subject x = new Subject();
        x.begin(3);
        for (int name = 0; name < 4; name++) {
            x.put(name, 10 + name);
        }
        due("markOf(0, a, 0)", x.markOf(0, A, 0), INVALID);
        x.mark();
        x.keep();
        x.mark();
        x.put(B, 1);
        due("a stood", x.markOf(0, A, 0), MISSING);
        due("a's home", x.markOf(0, A, 1), 10);
        due("b's chair", x.markOf(0, B, 0), 1);
        due("d's chair", x.markOf(0, D, 0), 0);
        due("d's home", x.markOf(0, D, 1), 0);
        for (int mark : new int[] {-1, 1, 2, 3, Integer.MAX_VALUE}) {
            due("markOf(" + mark + ")", x.markOf(mark, D, 1), INVALID);
        }
        for (int name : NO_NAMES) {
            due("markOf(0, " + name + ", 0)", x.markOf(0, name, 0), INVALID);
        }
        for (int what : new int[] {-1, 2, Integer.MIN_VALUE}) {
            due("markOf(0, a, " + what + ")", x.markOf(0, A, what), INVALID);
        }
        x.mark();
        x.mark();
        due("markOf(2, a, 1)", x.markOf(2, A, 1), 10);
        due("markOf(3, a, 1)", x.markOf(3, A, 1), INVALID);
    }

    private static void promise12NameOf() {
        promise = "12";
        Subject x = new Subject();
        x.put(A, 7);
        x.copy(B, A);
        x.order(MUL, C, A, D);
        x.order(SUB, E, C, A);
        int[][] want = {{7, 0, 0, 2, 7}, {7, 0, 0, 2, 7}, {MISSING, 2, 0, 1, 0}, {MISSING, 1, 0, 1, 0},
            {MISSING, 3, 0, 1, 9993}, {0, MISSING, 0, MISSING, 0}};
        for (int name = 0; name < want.length; name++) {
            for (int what = 0; what <= 4; what++) {
                due("nameOf(" + name + ", " + what + ")", x.nameOf(name, what), want[name][what]);
            }
        }
        x.begin(3);
        for (int name = 0; name < 4; name++) {
            x.put(name, 50 + name);
        }
        due("the value of a name that stands", x.nameOf(A, 0), 50);
        due("its home", x.nameOf(A, 2), 50);
        due("what it will be", x.nameOf(A, 4), 50);
        due("names that have it", x.nameOf(A, 3), MISSING);
        for (int name : NO_NAMES) {
            due("nameOf(" + name + ", 0)", x.nameOf(name, 0), INVALID);
        }
        for (int what : new int[] {-1, 5, Integer.MAX_VALUE}) {
            due("nameOf(a, " + what + ")", x.nameOf(A, what), INVALID);
        }
    }

    private static void promise13ChairOf() {
        promise = "13";
        Subject x = new Subject();
        x.put(A, 7);
        x.copy(7, A);
        x.mark();
        x.put(B, 8);
        x.mark();
        x.order(ADD, C, B, B);
        x.order(ADD, D, B, A);
        int[][] want = {{7, 129, 3, 1, 0, 0}, {8, 2, 2, 2, 0, 0}, {MISSING, 4, 0, 0, 1, 0}, {MISSING, 8, 0, 0, 1, 0},
            {MISSING, MISSING, MISSING, MISSING, MISSING, MISSING}};
        for (int chair = 0; chair < want.length; chair++) {
            for (int what = 0; what <= 5; what++) {
                due("chairOf(" + chair + ", " + what + ")", x.chairOf(chair, what), want[chair][what]);
            }
        }
        due("chairOf(5, 0)", x.chairOf(5, 0), INVALID);
        due("chairOf(-1, 0)", x.chairOf(-1, 0), INVALID);
        due("chairOf(4, 6)", x.chairOf(4, 6), INVALID);
        due("chairOf(4, -1)", x.chairOf(4, -1), INVALID);
        due("chairOf(0, 6)", x.chairOf(0, 6), INVALID);
        x.begin(7);
        due("chairOf(6, 0)", x.chairOf(6, 0), MISSING);
        due("chairOf(7, 0)", x.chairOf(7, 0), INVALID);
        x.put(A, 1);
        x.put(B, 2);
        x.copy(D, C);
        due("the next one, though chairs are free", x.chairOf(0, 5), 1);
        due("one only", x.chairOf(1, 5), 0);
        x.copy(E, A);
        due("the next one", x.chairOf(1, 5), 1);
        x.put(B, 3);
        due("not what is not known", x.chairOf(2, 5), 0);
        due("a's instead", x.chairOf(0, 5), 1);
        x.tick(2);
        due("when it is known", x.chairOf(2, 5), 1);
        due("its value", x.chairOf(2, 0), 0);
    }

    private static void promise14OrderOf() {
        promise = "14";
        Subject x = new Subject();
        x.begin(7);
        due("orderOf(0, 0)", x.orderOf(0, 0), INVALID);
        x.put(A, 7);
        x.put(B, 8);
        x.order(MUL, C, B, A);
        x.mark();
        x.order(SUB, D, C, B);
        x.mark();
        x.order(ADD, E, A, A);
        x.tick(1);
        int[][] want = {{2, 2, 1, 0, 1, 3, 0}, {1, 3, 2, 1, 0, MISSING, 1}, {0, 4, 0, 0, 1, 1, 2}};
        for (int index = 0; index < 3; index++) {
            for (int what = 0; what <= 6; what++) {
                due("orderOf(" + index + ", " + what + ")", x.orderOf(index, what), want[index][what]);
            }
        }
        due("orderOf(3, 0)", x.orderOf(3, 0), INVALID);
        due("orderOf(-1, 0)", x.orderOf(-1, 0), INVALID);
        due("orderOf(0, 7)", x.orderOf(0, 7), INVALID);
        due("orderOf(0, -1)", x.orderOf(0, -1), INVALID);
        due("orderOf(max, 0)", x.orderOf(Integer.MAX_VALUE, 0), INVALID);
        x.tick(1);
        due("the third is done", x.count(3), 2);
        due("due in", x.orderOf(0, 5), 2);
        x.tick(2);
        due("the second is the first now", x.orderOf(0, 0), 1);
        due("a mark of its own is there", x.orderOf(0, 6), 1);
        x.keep();
        due("and is not any more", x.orderOf(0, 6), 0);
    }

    private static void promise15Count() {
        promise = "15";
        Subject x = new Subject();
        x.begin(4);
        x.put(A, 1);
        x.put(B, 2);
        x.copy(C, B);
        x.order(ADD, D, A, B);
        x.tick(1);
        x.order(ADD, D, A, B);
        x.type('k');
        x.type(';');
        int[] want = {4, 0, 4, 2, 1, 0, 1, 0, 0, 0, 4, 2};
        for (int i = 0; i < want.length; i++) {
            due("count(" + i + ")", x.count(i), want[i]);
        }
        x.tick(3);
        x.mark();
        x.put(E, 5);
        x.back(0);
        x.put(E, 5);
        x.order(ADD, F, 7, 7);
        int[] then = {4, 0, 4, 1, 0, 2, 4, 0, 2, 1, 4, 2};
        for (int i = 0; i < then.length; i++) {
            due("later count(" + i + ")", x.count(i), then[i]);
        }
        for (int what : new int[] {-1, 12, 13, 19, 24, Integer.MIN_VALUE, Integer.MAX_VALUE}) {
            due("count(" + what + ")", x.count(what), INVALID);
        }
    }

    private static void promise16Sends() {
        promise = "16";
        Subject x = new Subject();
        x.begin(4);
        for (int name = 0; name < 4; name++) {
            x.put(name, name);
        }
        String before = x.all();
        due("one for the version", x.sends(E, A, B), 1);
        due("none if the name gives up its own", x.sends(D, A, B), 0);
        due("two", x.sends(F, A, E), 2);
        due("three", x.sends(F, E, 7), 3);
        due("one name twice", x.sends(F, E, E), 2);
        due("the name is read", x.sends(A, A, B), 1);
        for (int wrong : NO_NAMES) {
            due("name", x.sends(wrong, A, A), INVALID);
            due("one", x.sends(A, wrong, A), INVALID);
            due("other", x.sends(A, A, wrong), INVALID);
        }
        unchanged(x, before);
        x.put(E, 4);
        due("what was sent out before is not counted", x.sends(F, B, C), 1);
        due("none of the chairs of two that are read", x.sends(F, C, D), 1);
        x.put(B, 6);
        due("the version's chair would be the first", x.sends(F, C, D), 1);
        x.mark();
        due("no chairs", x.sends(E, A, B), IMPOSSIBLE);
        due("no chairs and a wrong name", x.sends(8, A, B), INVALID);
        x.begin(7);
        due("chairs enough", x.sends(A, B, C), 0);
    }

    private static void promise17IdleIn() {
        promise = "17";
        Subject x = new Subject();
        due("none", x.idleIn(), 0);
        x.put(A, 3);
        x.copy(B, C);
        due("names that sit down are no orders", x.idleIn(), 0);
        x.order(MUL, D, A, A);
        due("a product", x.idleIn(), 4);
        x.order(ADD, D, D, D);
        due("a sum of it", x.idleIn(), 5);
        String before = x.all();
        x.idleIn();
        unchanged(x, before);
        x.tick(4);
        due("one tick is left", x.idleIn(), 1);
        x.set(0, 9);
        due("it has begun", x.idleIn(), 1);
        due("tick(1)", x.tick(1), 1);
        due("none", x.idleIn(), 0);
        x.begin(7);
        x.set(0, 9);
        x.set(1, 9);
        x.set(2, 9);
        for (int i = 0; i < 6; i++) {
            x.order(MUL, A, A, A);
        }
        due("the longest", x.idleIn(), 63);
    }

    private static void promise18KnownIn() {
        promise = "18";
        Subject x = new Subject();
        due("who stands", x.knownIn(A), 0);
        x.put(A, 3);
        due("a value", x.knownIn(A), 0);
        x.order(MUL, D, A, C);
        due("who sits down", x.knownIn(C), 2);
        due("the product", x.knownIn(D), 5);
        String before = x.all();
        x.knownIn(D);
        unchanged(x, before);
        x.order(ADD, D, A, A);
        due("another version", x.knownIn(D), 2);
        x.tick(1);
        due("later", x.knownIn(D), 1);
        due("later", x.knownIn(C), 1);
        x.tick(1);
        due("now", x.knownIn(D), 0);
        for (int name : NO_NAMES) {
            due("knownIn(" + name + ")", x.knownIn(name), INVALID);
        }
    }

    private static void promise19Undo() {
        promise = "19";
        Subject x = new Subject();
        due("undo()", x.undo(), IMPOSSIBLE);
        String[] states = new String[6];
        x.type('k');
        for (int i = 0; i < 6; i++) {
            states[i] = x.allButHistory();
            due("change " + i, i == 0 ? x.begin(7) : i == 1 ? x.set(2, 3) : i == 2 ? x.mark() : i == 3
                ? x.order(ADD, A, B, C) : i == 4 ? x.tick(5) : x.back(0), i == 0 ? 5 : i == 1 || i == 3 ? 2 : i == 4 ? 1 : 0);
        }
        due("states", x.count(10), 4);
        for (int i = 5; i >= 2; i--) {
            due("undo()", x.undo(), i - 2);
            Checks.same("19: state " + i, x.allButHistory(), states[i]);
        }
        due("undo()", x.undo(), IMPOSSIBLE);
        due("errors are no changes", x.put(8, 1), INVALID);
        due("no error, no change", x.count(10), 0);
        x.keep();
        x.back(0);
        x.fault(0);
        x.idleIn();
        due("none", x.count(10), 0);
        undoAndOtherChanges();
        x.put(A, 1);
        x.type('e');
        due("one", x.count(10), 1);
        due("undo()", x.undo(), 0);
        due("the text stays", x.count(11), 2);
        x.copy(A, B);
        x.put(A, 1);
        x.keep();
        due("two", x.count(10), 2);
        due("usable again", x.undo(), 1);
        due("one mark less is no state", x.undo(), 0);
    }

    private static void undoAndOtherChanges() {
        Subject x = new Subject();
        x.put(A, 1);
        x.put(A, 2);
        due("undo()", x.undo(), 1);
        x.put(A, 3);
        x.put(A, 4);
        due("undo()", x.undo(), 2);
        due("a", x.nameOf(A, 0), 3);
        due("undo()", x.undo(), 1);
        due("a", x.nameOf(A, 0), 1);
        x.put(A, 5);
        x.put(A, 6);
        x.put(A, 7);
        due("full", x.count(10), 4);
        for (int i = 0; i < 4; i++) {
            due("undo()", x.undo(), 3 - i);
            due("a", x.nameOf(A, 0), i == 0 ? 6 : i == 1 ? 5 : i == 2 ? 1 : 0);
        }
    }

    private static void promise20Type() {
        promise = "20";
        Subject x = new Subject();
        for (int character : new int[] {31, 127, 0, -1, 256 + 65, Integer.MIN_VALUE, Integer.MAX_VALUE}) {
            due("type(" + character + ")", x.type(character), INVALID);
        }
        due("length", x.count(11), 0);
        for (int i = 1; i <= 80; i++) {
            due("type", x.type(i % 2 == 0 ? 32 : 126), i);
        }
        due("an 81st", x.type(65), LIMIT);
        due("an 81st that is wrong", x.type(31), INVALID);
        due("length", x.count(11), 80);
        due("no change", x.count(10), 0);
    }

    private static void promise21ClearText() {
        promise = "21";
        Subject x = new Subject();
        due("clearText()", x.clearText(), 0);
        x.typeAll("put a 5;");
        due("clearText()", x.clearText(), 8);
        due("length", x.count(11), 0);
        due("no command is left", x.play(), 0);
        x.typeAll("mark;");
        due("one command", x.play(), 1);
        due("clearText()", x.clearText(), 5);
    }

    private static void fault(Subject x, String text, int position, int reason, int cause) {
        x.clearText();
        x.typeAll(text);
        due("position of " + text, x.fault(0), position);
        due("reason of " + text, x.fault(1), reason);
        due("cause of " + text, x.fault(2), cause);
    }

    private static void promise22Fault() {
        promise = "22";
        Subject x = new Subject();
        due("fault(-1)", x.fault(-1), INVALID);
        due("fault(3)", x.fault(3), INVALID);
        fault(x, "", MISSING, MISSING, MISSING);
        fault(x, "put a 9;mark;", MISSING, MISSING, MISSING);
        fault(x, "put a 9;mark", 8, 1, MISSING);
        fault(x, "put a 9;keep;", 8, 2, IMPOSSIBLE);
        fault(x, "mark;mark;mark;mark;", 15, 2, LIMIT);
        fault(x, "mark;back 0;back 0;", 12, 2, INVALID);
        fault(x, "mark;keep;keep;x", 10, 2, IMPOSSIBLE);
        fault(x, "x;keep;", 0, 1, MISSING);
        fault(x, "copy a a;", 0, 2, INVALID);
        fault(x, "tick 0;", 0, 2, INVALID);
        fault(x, "tick 100;", 0, 2, INVALID);
        fault(x, "put a 1;put b 2;put c 3;mark;add d a b;add e a b;add f a b;", 49, 2, IMPOSSIBLE);
        x.begin(7);
        x.put(A, 1);
        for (int i = 0; i < 6; i++) {
            x.order(ADD, B, A, A);
        }
        fault(x, "add b a a;", 0, 2, IMPOSSIBLE);
        String before = x.all();
        x.fault(0);
        unchanged(x, before);
    }

    private static void promise22Forms() {
        promise = "22";
        String[] good = {"put h 9999;", "put a 0000;", "put b 7;", "copy a h;", "add a b c;", "sub h h h;", "mul d d e;",
            "tick 1;", "tick 0099;", "mark;"};
        for (String text : good) {
            fault(new Subject(), text, MISSING, MISSING, MISSING);
        }
        String[] bad = {";", " ", "put a;", "put a ;", "put a 12345;", "put a -1;", "put a b;", "put i 1;", "put A 1;",
            "put a  1;", "put  a 1;", " put a 1;", "put a 1 ;", "put a 1", "puta 1;", "put a1;", "copy a 1;", "copy a;",
            "copy a b c;", "add a b;", "add a b c d;", "Add a b c;", "ad a b c;", "adds a b c;", "sub a b 1;", "mul a;",
            "tick;", "tick a;", "tick 1 1;", "mark 0;", "mark ;", "keep 1;", "back;", "back a;", "back 00000;",
            "div a b c;", "tick 1:", "begin 5;", "undo;", "put @ #;", "mar"};
        for (String text : bad) {
            fault(new Subject(), text, 0, 1, MISSING);
        }
        Subject x = new Subject();
        fault(x, "mark; mark;", 5, 1, MISSING);
        fault(x, "mark;;", 5, 1, MISSING);
        fault(x, "mark;back 0000;", MISSING, MISSING, MISSING);
    }

    private static void promise23Play() {
        promise = "23";
        Subject x = new Subject();
        due("no commands", x.play(), 0);
        due("one change all the same", x.count(10), 1);
        x.typeAll("put a 0012;put b 5;sub c b a;mul d a b;copy e d;tick 9;");
        due("play()", x.play(), 6);
        due("one change", x.count(10), 2);
        due("the text stays", x.count(11), 55);
        due("a", x.nameOf(A, 0), 12);
        due("c", x.nameOf(C, 0), 9993);
        due("e", x.nameOf(E, 0), 60);
        due("e's chair", x.nameOf(E, 1), x.nameOf(D, 1));
        due("time", x.count(6), 9);
        due("undo()", x.undo(), 1);
        due("a", x.nameOf(A, 0), 0);
        due("time", x.count(6), 0);
        x.clearText();
        x.typeAll("mark;put a 3;mark;add b a a;keep;back 0;put c 4;keep;");
        due("a fault at its end", x.fault(0), 48);
        String before = x.all();
        due("play()", x.play(), IMPOSSIBLE);
        unchanged(x, before);
        x.clearText();
        x.typeAll("mark;put a 3;mark;add b a a;keep;back 0;put c 4;");
        due("play()", x.play(), 7);
        due("b stands", x.nameOf(B, 1), MISSING);
        due("no orders", x.count(3), 0);
        due("no marks", x.count(7), 0);
        x.clearText();
        x.typeAll("mark");
        due("play()", x.play(), IMPOSSIBLE);
    }

    /** A command of a text is a use of its own, so its versions are told apart by age. */
    private static void promise23UsesByCommand() {
        promise = "23";
        Subject x = new Subject();
        x.begin(3);
        x.typeAll("put a 1;put b 2;put c 3;put a 4;copy d b;");
        due("play()", x.play(), 5);
        due("c's is the oldest", x.put(E, 5), 2);
        due("then a's", x.put(F, 6), 0);
        due("then b's and d's", x.put(7, 7), 1);
        due("d's home", x.nameOf(D, 2), 2);
    }
}
