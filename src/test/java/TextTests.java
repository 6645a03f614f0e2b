/** Texts: their length, the form of each command, faults, and playing; the promises 20 to 23. */
public final class TextTests extends DocTest {
    public static void main(String[] args) throws IllegalAccessException {
        run(TextTests.class);
    }

    private static Subject typed(String text) {
        Subject x = new Subject();
        x.typeAll(text);
        about = " of the text \"" + text + "\"";
        return x;
    }

    private static void noFault(String text, int commands) {
        Subject x = typed(text);
        due(x.fault(0), MISSING);
        due(x.fault(1), MISSING);
        due(x.fault(2), MISSING);
        due(typed(text).play(), commands);
    }

    private static void badForm(String text, int position) {
        Subject x = typed(text);
        due(x.fault(0), position);
        due(x.fault(1), 1);
        due(x.fault(2), MISSING);
        due(x.play(), IMPOSSIBLE);
    }

    private static void badForm(String text) {
        badForm(text, 0);
        badForm("mark;" + text, 5);
    }

    private static void notPossible(Subject x, int position, int cause) {
        due(x.fault(0), position);
        due(x.fault(1), 2);
        due(x.fault(2), cause);
        due(x.play(), IMPOSSIBLE);
    }

    private static void notPossible(String text, int position, int cause) {
        notPossible(typed(text), position, cause);
    }

    // ---- type and clearText

    @Says("character: 32 to 126")
    private static void firstAndLastCharacter() {
        Subject x = new Subject();
        for (int character = 32; character <= 126; character++) {
            if (x.count(11) == 80) {
                due(x.clearText(), 80);
            }
            int length = x.count(11);
            due(x.type(character), length + 1);
        }
        for (int character : new int[] {31, 127, 0, -1, 10, 128, 256 + 'a', 65536 + 'a', LOWEST, HIGHEST}) {
            refused(after(DocTest::furnish), y -> y.type(character), INVALID);
        }
    }

    @Says("There is a text of at most 80 characters, initially empty")
    private static void theTextIsEmptyAtFirst() {
        Subject x = new Subject();
        due(x.count(11), 0);
        due(x.fault(0), MISSING);
        due(x.clearText(), 0);
        due(x.play(), 0);
        due(x.type('a'), 1);
    }

    private static void eightyCharacters(Subject x) {
        furnish(x);
        x.clearText();
        for (int i = 1; i <= 80; i++) {
            due(x.type("mark;keep;".charAt((i - 1) % 10)), i);
        }
    }

    @Says("LIMIT_REACHED if it has 80 characters.")
    private static void anEightyFirstCharacter() {
        refused(after(TextTests::eightyCharacters), x -> x.type(';'), LIMIT);
        Subject x = new Subject();
        eightyCharacters(x);
        due(x.count(11), 80);
        due(x.fault(0), MISSING);
        due(x.type('m'), LIMIT);
        due(x.count(11), 80);
        due(x.fault(0), MISSING);
        due(x.clearText(), 80);
        due(x.type('m'), 1);
    }

    @Says("INVALID_ARGUMENT is returned rather than .. LIMIT_REACHED")
    private static void noCharacterForAFullText() {
        for (int character : new int[] {31, 127, LOWEST, HIGHEST}) {
            refused(after(TextTests::eightyCharacters), x -> x.type(character), INVALID);
        }
    }

    @Says("Empties the text. Returns the length it had.")
    private static void clearedTexts() {
        Subject x = new Subject();
        due(x.clearText(), 0);
        x.typeAll("keep;");
        due(x.fault(0), 0);
        due(x.clearText(), 5);
        due(x.count(11), 0);
        due(x.fault(0), MISSING);
        due(x.clearText(), 0);
        x.typeAll("mark;");
        due(x.count(11), 5);
        due(x.play(), 1);
    }

    @Says("Empties the text.")
    private static void nothingIsLeftBehindAClearedText() {
        Subject x = new Subject();
        x.typeAll("tick 1;tick 2;");
        due(x.clearText(), 14);
        x.typeAll("tick 1");
        due(x.fault(1), 1);
        due(x.type(';'), 7);
        due(x.play(), 1);
        due(x.count(6), 1);
    }

    // ---- forms

    @Says("\"put\" a name and a value")
    private static void formOfPut() {
        noFault("put a 0;", 1);
        noFault("put h 9999;", 1);
        for (String text : new String[] {"put;", "put a;", "put 1;", "put a b;", "put 1 a;", "put a 1 2;", "put a b 1;",
            "put a 1 b;", "put a -1;", "put a +1;", "put a 1.;", "puta 1;", "put a1;", "pu a 1;", "putt a 1;"}) {
            badForm(text);
        }
    }

    @Says("\"copy\" a name (to which) and a name")
    private static void formOfCopy() {
        noFault("copy a h;", 1);
        noFault("copy h a;", 1);
        for (String text : new String[] {"copy;", "copy a;", "copy a 1;", "copy 1 a;", "copy a b c;", "copya b;",
            "copy ab;", "cop a b;", "copyy a b;"}) {
            badForm(text);
        }
        Subject x = new Subject();
        x.put(A, 5);
        x.typeAll("copy b a;");
        x.play();
        due(x.nameOf(B, 0), 5);
        due(x.nameOf(A, 0), 5);
    }

    @Says("\"add\", \"sub\" or \"mul\" a name (that is written) and two names")
    private static void formOfOrders() {
        for (String word : new String[] {"add", "sub", "mul"}) {
            noFault(word + " a b c;", 1);
            noFault(word + " h h h;", 1);
            noFault(word + " c a h;", 1);
            for (String rest : new String[] {";", " a;", " a b;", " a b c d;", " a b 1;", " a 1 c;", " 1 b c;", " a bc;",
                " ab c;", "a b c;", "s a b c;"}) {
                badForm(word + rest);
            }
        }
        badForm("div a b c;");
        badForm("ad a b c;");
        Subject x = new Subject();
        x.begin(7);
        x.typeAll("put a 7;put b 5;add c a b;sub d a b;mul e a b;");
        due(x.play(), 5);
        due(x.nameOf(C, 4), 12);
        due(x.nameOf(D, 4), 2);
        due(x.nameOf(E, 4), 35);
        due(x.orderOf(0, 0), ADD);
        due(x.orderOf(1, 0), SUB);
        due(x.orderOf(2, 0), MUL);
        due(x.orderOf(1, 2), 0);
        due(x.orderOf(1, 3), 1);
    }

    @Says("\"tick\" and a number")
    private static void formOfTick() {
        noFault("tick 1;", 1);
        noFault("tick 99;", 1);
        for (String text : new String[] {"tick;", "tick ;", "tick a;", "tick 1 1;", "tick1;", "tic 1;", "ticks 1;",
            "tick -1;"}) {
            badForm(text);
        }
    }

    @Says("\"mark\", \"keep\", or \"back\" and a number")
    private static void formsOfMarks() {
        noFault("mark;", 1);
        noFault("mark;keep;", 2);
        noFault("mark;back 0;", 2);
        noFault("mark;mark;mark;back 2;back 1;back 0;", 6);
        for (String text : new String[] {"mark 0;", "mark ;", "mar;", "marks;", "mark a;", "keep 0;", "keep ;", "kee;",
            "keep a;", "back;", "back ;", "back a;", "back 0 0;", "back0;", "bac 0;", "back -1;"}) {
            badForm(text);
        }
    }

    @Says("commands .. which are words with one blank between two")
    private static void oneBlankBetweenTwoWords() {
        for (String text : new String[] {"put  a 1;", "put a  1;", " put a 1;", "put a 1 ;", "mark ;", " mark;", " ;",
            "add a  b c;", "add a b  c;", "copy a  b;", "tick  1;", "back  0;", " "}) {
            badForm(text);
        }
        badForm("mark; mark;", 5);
        badForm("mark; ", 5);
    }

    @Says("each followed by \";\"")
    private static void eachCommandIsFollowedByASemicolon() {
        for (String text : new String[] {"mark", "put a 1", "tick 1:", "mark,", "mark.", "put a 1 mark;", "markkeep;",
            "mark:keep;"}) {
            badForm(text);
        }
        badForm("mark;;", 5);
        badForm(";", 0);
        badForm("mark;keep", 5);
        noFault("mark;keep;", 2);
    }

    @Says("names are letters a to h")
    private static void firstAndLastLetter() {
        for (char letter = 'a'; letter <= 'h'; letter++) {
            Subject x = typed("put " + letter + " 5;");
            due(x.play(), 1);
            due(x.nameOf(letter - 'a', 0), 5);
        }
        for (String text : new String[] {"put ` 1;", "put i 1;", "put A 1;", "put H 1;", "put 0 1;", "put @ 1;",
            "copy a i;", "copy i a;", "copy ` a;", "add i a b;", "sub a i b;", "mul a b i;", "add a b `;"}) {
            badForm(text);
        }
    }

    @Says("commands .. which are words")
    private static void wordsAreOfSmallLetters() {
        for (String text : new String[] {"Put a 1;", "PUT a 1;", "MARK;", "Mark;", "Tick 1;", "Add a b c;", "x;", "undo;",
            "begin 5;", "set 0 1;", "play;", "#;", "put @ #;", "put a #;"}) {
            badForm(text);
        }
    }

    @Says("numbers have one to four digits")
    private static void fewestAndMostDigits() {
        noFault("put a 1;put a 12;put a 123;put a 1234;", 4);
        Subject x = typed("put a 8;put b 98;put c 987;put d 9876;");
        due(x.play(), 4);
        due(x.nameOf(A, 0), 8);
        due(x.nameOf(B, 0), 98);
        due(x.nameOf(C, 0), 987);
        due(x.nameOf(D, 0), 9876);
        for (String text : new String[] {"put a ;", "put a 12345;", "put a 10000;", "tick 00001;", "back 00000;",
            "tick 99999;", "put a 99999999999;", "put a 4294967297;"}) {
            badForm(text);
        }
        noFault("tick 9;tick 99;", 2);
    }

    @Says("0 ahead allowed")
    private static void zerosAhead() {
        noFault("put a 0000;put b 0007;put c 07;tick 0099;tick 01;mark;back 0000;", 7);
        Subject x = typed("put a 0012;put b 000;tick 0009;mark;back 00;");
        due(x.play(), 5);
        due(x.nameOf(A, 0), 12);
        due(x.nameOf(B, 0), 0);
        due(x.count(6), 9);
        notPossible("tick 0000;", 0, INVALID);
        notPossible("tick 0100;", 0, INVALID);
    }

    @Says("Does all commands of the text")
    private static void commandsInAFullText() {
        Subject x = new Subject();
        for (int i = 0; i < 16; i++) {
            x.typeAll(i % 2 == 0 ? "mark;" : "keep;");
        }
        due(x.count(11), 80);
        due(x.fault(0), MISSING);
        due(x.play(), 16);
        x.clearText();
        x.typeAll("mark;keep;mark;keep;mark;keep;mark;keep;mark;keep;mark;keep;mark;keep;mark;keep.");
        due(x.fault(0), 75);
        due(x.fault(1), 1);
    }

    @Says("Does all commands of the text")
    private static void aCommandCutOffByTheEndOfTheText() {
        Subject x = new Subject();
        x.typeAll("mark;keep;mark;keep;mark;keep;mark;keep;mark;keep;mark;keep;mark;keep;tick 0001");
        due(x.type(';'), 80);
        due(x.fault(0), MISSING);
        due(x.play(), 15);
        x.clearText();
        x.typeAll("mark;keep;mark;keep;mark;keep;mark;keep;mark;keep;mark;keep;mark;keep;put a 1234;");
        due(x.count(11), 80);
        due(x.fault(0), 70);
        due(x.fault(1), 1);
    }

    // ---- faults

    @Says("what: 0: its position; 1: its reason; 2: its cause")
    private static void noSuchQuestionOfAFault() {
        for (int what : new int[] {-1, 3, LOWEST, HIGHEST}) {
            refused(after(DocTest::furnish), x -> x.fault(what), INVALID);
            refused(Subject::new, x -> x.fault(what), INVALID);
        }
    }

    @Says("NOT_FOUND if the text has no fault (also if it is empty), for 2 if its reason is 1.")
    private static void noFaultAndNoCause() {
        for (int what = 0; what <= 2; what++) {
            int asked = what;
            refused(Subject::new, x -> x.fault(asked), MISSING);
            refused(after(x -> {
                furnish(x);
                x.type(';');
            }), x -> x.fault(asked), MISSING);
        }
        refused(after(DocTest::furnish), x -> x.fault(2), MISSING);
        changesNothing(after(DocTest::furnish), x -> x.fault(0), 9);
        changesNothing(after(DocTest::furnish), x -> x.fault(1), 1);
    }

    @Says("The fault of the text is the position, from 0, of the first character of the first command")
    private static void positionsOfFaults() {
        badForm("x", 0);
        badForm("put a 1;x", 8);
        badForm("put a 1;put b 22;put c", 17);
        notPossible("keep;", 0, IMPOSSIBLE);
        notPossible("put a 1;keep;", 8, IMPOSSIBLE);
        notPossible("tick 0;keep;x", 0, INVALID);
        notPossible("mark;keep;keep;x;", 10, IMPOSSIBLE);
        badForm("mark;x;keep;", 5);
    }

    @Says("that is not possible, when those ahead of it are done")
    private static void faultsThatComeOfTheCommandsAhead() {
        noFault("mark;keep;", 2);
        notPossible("mark;keep;keep;", 10, IMPOSSIBLE);
        notPossible("mark;mark;mark;mark;", 15, LIMIT);
        noFault("mark;mark;mark;keep;mark;", 5);
        noFault("mark;back 0;mark;back 0;", 4);
        notPossible("mark;back 1;", 5, INVALID);
        notPossible("mark;back 0;back 0;", 12, INVALID);
        Subject x = new Subject();
        x.begin(3);
        x.typeAll("put a 1;put b 2;put c 3;mark;put d 4;");
        notPossible(x, 29, IMPOSSIBLE);
    }

    @Says("that is not possible, when those ahead of it are done")
    private static void faultsThatComeOfTheRoom() {
        Subject x = typed("keep;");
        due(x.fault(2), IMPOSSIBLE);
        x.mark();
        due(x.fault(0), MISSING);
        due(x.play(), 1);
        due(x.fault(0), 0);
        due(x.fault(2), IMPOSSIBLE);
        due(x.undo(), 1);
        due(x.fault(0), MISSING);
    }

    @Says("its reason is 1 if it is not of this form, its \";\" included, and otherwise 2")
    private static void formGoesAheadOfPossibility() {
        badForm("keep", 0);
        badForm("tick 0", 0);
        badForm("copy a a", 0);
        badForm("put a 10000;", 0);
        notPossible("keep;", 0, IMPOSSIBLE);
        notPossible("tick 0;", 0, INVALID);
        notPossible("copy a a;", 0, INVALID);
    }

    @Says("its cause is then the error code that the call returns for it.")
    private static void causesOfFaults() {
        notPossible("copy h h;", 0, INVALID);
        notPossible("tick 100;", 0, INVALID);
        notPossible("tick 9999;", 0, INVALID);
        notPossible("back 0;", 0, INVALID);
        notPossible("mark;back 9999;", 5, INVALID);
        notPossible("keep;", 0, IMPOSSIBLE);
        notPossible("mark;mark;mark;mark;", 15, LIMIT);
        for (String order : new String[] {"add", "sub", "mul"}) {
            Subject x = new Subject();
            fill(x, 3);
            x.mark();
            x.typeAll("copy d c;" + order + " d a b;");
            notPossible(x, 9, IMPOSSIBLE);
        }
        Subject x = new Subject();
        fill(x, 3);
        x.mark();
        x.typeAll("copy d e;");
        notPossible(x, 0, IMPOSSIBLE);
        Subject late = new Subject();
        nearTheLastTime(late);
        late.typeAll("tick 5;");
        due(late.fault(0), MISSING);
        late.typeAll("tick 1;");
        notPossible(late, 7, LIMIT);
    }

    // ---- play

    @Says("They are one change, also if there are none.")
    private static void playIsOneChange() {
        Subject x = new Subject();
        due(x.play(), 0);
        due(x.count(10), 1);
        x.typeAll("put a 1;put b 2;tick 3;mark;");
        due(x.play(), 4);
        due(x.count(10), 2);
        due(x.undo(), 1);
        due(x.nameOf(A, 1), MISSING);
        due(x.count(6), 0);
        due(x.count(7), 0);
        due(x.undo(), 0);
    }

    @Says("Does all commands of the text, which stays.")
    private static void theTextStays() {
        Subject x = typed("tick 2;");
        due(x.play(), 1);
        due(x.count(11), 7);
        due(x.play(), 1);
        due(x.count(6), 4);
        due(x.type('x'), 8);
        due(x.play(), IMPOSSIBLE);
        due(x.count(11), 8);
        due(x.fault(0), 7);
    }

    @Says("NOT_POSSIBLE if it has a fault.")
    private static void aTextWithAFaultIsNotPlayedAtAll() {
        for (String fault : new String[] {"x", "keep", "copy a a;", "tick 0;", "back 3;", ";"}) {
            refused(after(x -> {
                furnish(x);
                x.clearText();
                x.typeAll("put f 1;copy g f;mul h f b;tick 2;mark;keep;back 0;" + fault);
            }), Subject::play, IMPOSSIBLE);
        }
    }

    @Says("Returns how many there are in it")
    private static void playOfEveryCommand() {
        Subject x = new Subject();
        x.begin(7);
        x.typeAll("put a 9999;put b 2;add c a b;sub d b a;mul e a b;copy f e;tick 9;mark;put a 1;");
        due(x.count(11), 78);
        due(x.play(), 9);
        x.clearText();
        due(x.nameOf(C, 0), 1);
        due(x.nameOf(D, 0), 3);
        due(x.nameOf(E, 0), 9998);
        due(x.nameOf(F, 0), 9998);
        due(x.nameOf(F, 1), 4);
        due(x.count(5), 3);
        due(x.nameOf(A, 0), 1);
        x.typeAll("mark;keep;back 0;");
        due(x.play(), 3);
        due(x.nameOf(A, 0), 1);
        due(x.count(7), 0);
    }
}
