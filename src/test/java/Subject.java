import java.util.ArrayList;
import java.util.List;

/**
 * An object under test. It keeps its calls: only 512 are promised, so what it is like is asked of others
 * that are made in the same way.
 */
final class Subject {
    private final ChairNames x = new ChairNames();
    private final List<int[]> calls = new ArrayList<>();

    int call(int kind, int a, int b, int c, int d) {
        calls.add(new int[] {kind, a, b, c, d});
        Checks.lastCall = Calls.told(kind, a, b, c, d);
        if (calls.size() > Calls.PROMISED) {
            Checks.tell("the test makes more calls than are promised: " + Checks.lastCall);
        }
        return Calls.make(x, kind, a, b, c, d);
    }

    int begin(int chairs) {
        return call(Calls.BEGIN, chairs, 0, 0, 0);
    }

    int put(int name, int value) {
        return call(Calls.PUT, name, value, 0, 0);
    }

    int copy(int name, int from) {
        return call(Calls.COPY, name, from, 0, 0);
    }

    int order(int what, int name, int one, int other) {
        return call(Calls.ORDER, what, name, one, other);
    }

    int tick(int ticks) {
        return call(Calls.TICK, ticks, 0, 0, 0);
    }

    int set(int what, int value) {
        return call(Calls.SET, what, value, 0, 0);
    }

    int mark() {
        return call(Calls.MARK, 0, 0, 0, 0);
    }

    int keep() {
        return call(Calls.KEEP, 0, 0, 0, 0);
    }

    int back(int mark) {
        return call(Calls.BACK, mark, 0, 0, 0);
    }

    int markOf(int mark, int name, int what) {
        return call(Calls.MARK_OF, mark, name, what, 0);
    }

    int nameOf(int name, int what) {
        return call(Calls.NAME_OF, name, what, 0, 0);
    }

    int chairOf(int chair, int what) {
        return call(Calls.CHAIR_OF, chair, what, 0, 0);
    }

    int orderOf(int index, int what) {
        return call(Calls.ORDER_OF, index, what, 0, 0);
    }

    int count(int what) {
        return call(Calls.COUNT, what, 0, 0, 0);
    }

    int sends(int name, int one, int other) {
        return call(Calls.SENDS, name, one, other, 0);
    }

    int idleIn() {
        return call(Calls.IDLE_IN, 0, 0, 0, 0);
    }

    int knownIn(int name) {
        return call(Calls.KNOWN_IN, name, 0, 0, 0);
    }

    int undo() {
        return call(Calls.UNDO, 0, 0, 0, 0);
    }

    int type(int character) {
        return call(Calls.TYPE, character, 0, 0, 0);
    }

    int clearText() {
        return call(Calls.CLEAR_TEXT, 0, 0, 0, 0);
    }

    int fault(int what) {
        return call(Calls.FAULT, what, 0, 0, 0);
    }

    int play() {
        return call(Calls.PLAY, 0, 0, 0, 0);
    }

    void typeAll(String text) {
        for (int i = 0; i < text.length(); i++) {
            type(text.charAt(i));
        }
    }

    /** All that the object would tell. */
    String all() {
        return allButHistory() + " states " + new Aside().ask(Calls.COUNT, 10, 0, 0);
    }

    /** All that the object would tell but for the number of states in its history. */
    String allButHistory() {
        return state() + texts();
    }

    /** What belongs to a state: all that the object would tell but for its history and its text. */
    String state() {
        StringBuilder s = new StringBuilder();
        Aside aside = new Aside();
        for (int name = 0; name < 8; name++) {
            aside.tell(s, "name " + name, Calls.NAME_OF, name, 5);
            aside.tell(s, "known in", Calls.KNOWN_IN, name, 1);
        }
        for (int chair = 0; chair < 7; chair++) {
            aside.tell(s, "chair " + chair, Calls.CHAIR_OF, chair, 6);
        }
        for (int index = 0; index < 6; index++) {
            aside.tell(s, "order " + index, Calls.ORDER_OF, index, 7);
        }
        for (int mark = 0; mark < 3; mark++) {
            for (int name = 0; name < 8; name++) {
                s.append("\n   mark ").append(mark).append(" of ").append(name).append(": ")
                    .append(aside.ask(Calls.MARK_OF, mark, name, 0)).append(' ')
                    .append(aside.ask(Calls.MARK_OF, mark, name, 1));
            }
        }
        for (int what = 0; what < 24; what++) {
            if (what < 10 || what >= 20) {
                s.append("\n   count ").append(what).append(": ").append(aside.ask(Calls.COUNT, what, 0, 0));
            }
        }
        return s.append("\n   idle in ").append(aside.ask(Calls.IDLE_IN, 0, 0, 0)).toString();
    }

    private String texts() {
        StringBuilder s = new StringBuilder("\n   text ");
        Aside aside = new Aside();
        return s.append(aside.ask(Calls.COUNT, 11, 0, 0)).append(" faults ").append(aside.ask(Calls.FAULT, 0, 0, 0))
            .append(' ').append(aside.ask(Calls.FAULT, 1, 0, 0)).append(' ').append(aside.ask(Calls.FAULT, 2, 0, 0))
            .append(" play ").append(aside.ask(Calls.PLAY, 0, 0, 0)).toString();
    }

    /** Another object on which the same calls were made; made anew when its calls are used up. */
    private final class Aside {
        private ChairNames other;
        private int made = Calls.PROMISED;

        int ask(int kind, int a, int b, int c) {
            if (made >= Calls.PROMISED) {
                again();
            }
            made++;
            return Calls.make(other, kind, a, b, c, 0);
        }

        void tell(StringBuilder s, String of, int kind, int a, int numbers) {
            s.append("\n   ").append(of).append(':');
            for (int what = 0; what < numbers; what++) {
                s.append(' ').append(ask(kind, a, what, 0));
            }
        }

        private void again() {
            if (calls.size() >= Calls.PROMISED) {
                Checks.tell("the test leaves no call to ask what the object is like");
            }
            other = new ChairNames();
            made = calls.size();
            for (int[] call : calls) {
                Calls.make(other, call[0], call[1], call[2], call[3], call[4]);
            }
        }
    }
}
