import java.util.ArrayList;
import java.util.IdentityHashMap;
import java.util.List;
import java.util.Map;
import java.util.regex.Matcher;
import java.util.regex.Pattern;

/**
 * The document once more, written the other way round than the program: versions are objects that are
 * thrown away when nothing needs them, values are worked out when orders are done, states are copied.
 */
final class Model {
    private static final int INVALID = -1;
    private static final int IMPOSSIBLE = -2;
    private static final int LIMIT = -3;
    private static final int MISSING = -4;

    private static final class Version {
        int chair;
        int lastUse;
        boolean known;
        int value;
        int sitsAt;
        Order maker;
    }

    private static final class Order {
        int what;
        Version made;
        Version one;
        Version other;
        boolean begun;
        int due;
        List<Mark> marks = new ArrayList<>();
    }

    private static final class Name {
        Version version;
        int home;
    }

    private static final class Mark {
        Name[] names = new Name[8];
    }

    private static final class NoChair extends RuntimeException {
        private static final long serialVersionUID = 1L;
    }

    private static final class State {
        Version[] chairs = new Version[5];
        Name[] names = new Name[8];
        List<Order> orders = new ArrayList<>();
        List<Mark> marks = new ArrayList<>();
        int[] settings = {1, 3, 2, 2};
        int time;
        int done;
        int sent;
        int sat;

        State() {
            for (int i = 0; i < 8; i++) {
                names[i] = new Name();
            }
        }

        State copy() {
            State s = new State();
            Map<Version, Version> versions = new IdentityHashMap<>();
            s.chairs = new Version[chairs.length];
            for (int i = 0; i < chairs.length; i++) {
                if (chairs[i] != null) {
                    Version v = new Version();
                    v.chair = chairs[i].chair;
                    v.lastUse = chairs[i].lastUse;
                    v.known = chairs[i].known;
                    v.value = chairs[i].value;
                    v.sitsAt = chairs[i].sitsAt;
                    versions.put(chairs[i], v);
                    s.chairs[i] = v;
                }
            }
            s.names = copy(names, versions);
            Map<Mark, Mark> copies = new IdentityHashMap<>();
            for (Mark m : marks) {
                Mark c = new Mark();
                c.names = copy(m.names, versions);
                copies.put(m, c);
                s.marks.add(c);
            }
            for (Order o : orders) {
                Order c = new Order();
                c.what = o.what;
                c.made = versions.get(o.made);
                c.made.maker = c;
                c.one = versions.get(o.one);
                c.other = versions.get(o.other);
                c.begun = o.begun;
                c.due = o.due;
                for (Mark m : o.marks) {
                    if (copies.containsKey(m)) {
                        c.marks.add(copies.get(m));
                    }
                }
                s.orders.add(c);
            }
            s.settings = settings.clone();
            s.time = time;
            s.done = done;
            s.sent = sent;
            s.sat = sat;
            return s;
        }

        private static Name[] copy(Name[] from, Map<Version, Version> versions) {
            Name[] to = new Name[8];
            for (int i = 0; i < 8; i++) {
                to[i] = new Name();
                to[i].home = from[i].home;
                to[i].version = versions.get(from[i].version);
            }
            return to;
        }
    }

    private State now = new State();
    private final List<State> history = new ArrayList<>();
    private String text = "";
    private int use = 0;

    // ---- what is needed, and chairs

    private boolean marked(Version v) {
        for (Mark m : now.marks) {
            for (Name n : m.names) {
                if (n.version == v) {
                    return true;
                }
            }
        }
        return false;
    }

    private boolean read(Version v) {
        for (Order o : now.orders) {
            if (o.one == v || o.other == v) {
                return true;
            }
        }
        return false;
    }

    private boolean made(Version v) {
        for (Order o : now.orders) {
            if (o.made == v) {
                return true;
            }
        }
        return false;
    }

    private boolean had(Version v) {
        for (Name n : now.names) {
            if (n.version == v) {
                return true;
            }
        }
        return false;
    }

    private void dropWhatIsNotNeeded() {
        for (int i = 0; i < now.chairs.length; i++) {
            Version v = now.chairs[i];
            if (v != null && !had(v) && !marked(v) && !read(v) && !made(v)) {
                now.chairs[i] = null;
            }
        }
    }

    private Version toSend(Name one, Name other) {
        Version best = null;
        for (Version v : now.chairs) {
            if (v == null || !v.known || marked(v) || read(v) || made(v)) {
                continue;
            }
            if (one != null && one.version == v || other != null && other.version == v) {
                continue;
            }
            if (best == null || v.lastUse < best.lastUse) {
                best = v;
            }
        }
        return best;
    }

    private Version newVersion(Name one, Name other) {
        dropWhatIsNotNeeded();
        int chair = 0;
        while (chair < now.chairs.length && now.chairs[chair] != null) {
            chair++;
        }
        if (chair == now.chairs.length) {
            Version out = toSend(one, other);
            if (out == null) {
                throw new NoChair();
            }
            for (Name n : now.names) {
                if (n.version == out) {
                    n.version = null;
                    n.home = out.value;
                }
            }
            now.sent++;
            chair = out.chair;
        }
        Version v = new Version();
        v.chair = chair;
        v.lastUse = use;
        now.chairs[chair] = v;
        return v;
    }

    private void sitDown(Name n, Name one, Name other) {
        if (n.version == null) {
            Version v = newVersion(one, other);
            v.value = n.home;
            v.sitsAt = now.time + now.settings[2];
            v.known = now.settings[2] == 0;
            n.version = v;
            now.sat++;
        }
    }

    private static int result(int what, int a, int b) {
        long r = what == 0 ? (long) a + b : what == 1 ? (long) a - b : (long) a * b;
        if (r < 0) {
            r += 10000;
        }
        return (int) (r % 10000);
    }

    // ---- the changes, done on the present state

    private int begin(int chairs) {
        if (chairs < 3 || chairs > 7) {
            return INVALID;
        }
        int before = now.chairs.length;
        int[] settings = now.settings;
        now = new State();
        now.settings = settings;
        now.chairs = new Version[chairs];
        return before;
    }

    private int put(int name, int value) {
        if (name < 0 || name > 7 || value < 0 || value > 9999) {
            return INVALID;
        }
        Name n = now.names[name];
        n.version = null;
        Version v = newVersion(null, null);
        v.known = true;
        v.value = value;
        n.version = v;
        return v.chair;
    }

    private int copy(int name, int from) {
        if (name < 0 || name > 7 || from < 0 || from > 7 || name == from) {
            return INVALID;
        }
        Name n = now.names[name];
        Name f = now.names[from];
        sitDown(f, f, f);
        n.version = f.version;
        f.version.lastUse = use;
        return f.version.chair;
    }

    private int order(int what, int name, int one, int other, boolean counts) {
        if (what < 0 || what > 2 || name < 0 || name > 7 || one < 0 || one > 7 || other < 0 || other > 7) {
            return INVALID;
        }
        Name n = now.names[name];
        Name a = now.names[one];
        Name b = now.names[other];
        if (n != a && n != b) {
            n.version = null;
        }
        sitDown(a, a, b);
        sitDown(b, a, b);
        Order o = new Order();
        o.what = what;
        o.one = a.version;
        o.other = b.version;
        o.made = newVersion(a, b);
        o.made.maker = o;
        o.one.lastUse = use;
        o.other.lastUse = use;
        n.version = o.made;
        if (counts && now.orders.size() == 6) {
            return LIMIT;
        }
        o.marks.addAll(now.marks);
        now.orders.add(o);
        return o.made.chair;
    }

    private int tick(int ticks) {
        if (ticks < 1 || ticks > 99) {
            return INVALID;
        }
        if (now.time + ticks > 50000) {
            return LIMIT;
        }
        int before = now.done;
        for (int i = 0; i < ticks; i++) {
            oneTick();
        }
        return now.done - before;
    }

    private void oneTick() {
        now.time++;
        for (Version v : now.chairs) {
            if (v != null && !made(v) && v.sitsAt <= now.time) {
                v.known = true;
            }
        }
        List<Order> due = new ArrayList<>();
        for (Order o : now.orders) {
            if (o.begun && o.due == now.time) {
                due.add(o);
            }
        }
        for (Order o : due) {
            o.made.value = result(o.what, o.one.value, o.other.value);
            o.made.known = true;
            o.made.maker = null;
            now.done++;
        }
        now.orders.removeAll(due);
        int begun = 0;
        for (Order o : now.orders) {
            if (!o.begun && o.one.known && o.other.known && begun < now.settings[3]) {
                o.begun = true;
                o.due = now.time + now.settings[o.what == 2 ? 1 : 0];
                begun++;
            }
        }
        dropWhatIsNotNeeded();
    }

    private int set(int what, int value) {
        int[] least = {1, 1, 0, 1};
        int[] most = {9, 9, 9, 3};
        if (what < 0 || what > 3 || value < least[what] || value > most[what]) {
            return INVALID;
        }
        int before = now.settings[what];
        now.settings[what] = value;
        return before;
    }

    private int mark() {
        if (now.marks.size() == 3) {
            return LIMIT;
        }
        Mark m = new Mark();
        for (int i = 0; i < 8; i++) {
            m.names[i] = new Name();
            m.names[i].home = now.names[i].home;
            m.names[i].version = now.names[i].version;
        }
        now.marks.add(m);
        return now.marks.size() - 1;
    }

    private int keep() {
        if (now.marks.isEmpty()) {
            return IMPOSSIBLE;
        }
        Mark gone = now.marks.remove(0);
        for (Order o : now.orders) {
            o.marks.remove(gone);
        }
        return now.marks.size();
    }

    private int back(int mark) {
        if (mark < 0 || mark >= now.marks.size()) {
            return INVALID;
        }
        Mark m = now.marks.get(mark);
        int before = now.orders.size();
        now.orders.removeIf(o -> o.marks.contains(m));
        for (int i = 0; i < 8; i++) {
            now.names[i].home = m.names[i].home;
            now.names[i].version = m.names[i].version;
        }
        while (now.marks.size() > mark) {
            Mark gone = now.marks.remove(mark);
            for (Order o : now.orders) {
                o.marks.remove(gone);
            }
        }
        return before - now.orders.size();
    }

    private int change(int kind, int a, int b, int c, int d) {
        use++;
        int answer;
        try {
            switch (kind) {
                case 0: answer = begin(a); break;
                case 1: answer = put(a, b); break;
                case 2: answer = copy(a, b); break;
                case 3: answer = order(a, b, c, d, true); break;
                case 4: answer = tick(a); break;
                case 5: answer = set(a, b); break;
                case 6: answer = mark(); break;
                case 7: answer = keep(); break;
                default: answer = back(a); break;
            }
        } catch (NoChair none) {
            answer = IMPOSSIBLE;
        }
        dropWhatIsNotNeeded();
        return answer;
    }

    // ---- texts

    private static final Pattern FORM = Pattern.compile(
        "(?:(put) ([a-h]) ([0-9]{1,4})|(copy) ([a-h]) ([a-h])|(add|sub|mul) ([a-h]) ([a-h]) ([a-h])"
        + "|(tick) ([0-9]{1,4})|(mark)|(keep)|(back) ([0-9]{1,4}));");

    /** Position, reason and cause of the fault, and the number of the commands ahead of it; all done. */
    private int[] doText() {
        int[] r = {MISSING, MISSING, MISSING, 0};
        Matcher m = FORM.matcher(text);
        int at = 0;
        while (at < text.length()) {
            m.region(at, text.length());
            if (!m.lookingAt()) {
                r[0] = at;
                r[1] = 1;
                return r;
            }
            int answer = command(m);
            if (answer < 0) {
                r[0] = at;
                r[1] = 2;
                r[2] = answer;
                return r;
            }
            r[3]++;
            at = m.end();
        }
        return r;
    }

    private int command(Matcher m) {
        if (m.group(1) != null) {
            return change(1, letter(m.group(2)), Integer.parseInt(m.group(3)), 0, 0);
        }
        if (m.group(4) != null) {
            return change(2, letter(m.group(5)), letter(m.group(6)), 0, 0);
        }
        if (m.group(7) != null) {
            int what = m.group(7).equals("add") ? 0 : m.group(7).equals("sub") ? 1 : 2;
            return change(3, what, letter(m.group(8)), letter(m.group(9)), letter(m.group(10)));
        }
        if (m.group(11) != null) {
            return change(4, Integer.parseInt(m.group(12)), 0, 0, 0);
        }
        if (m.group(13) != null) {
            return change(6, 0, 0, 0, 0);
        }
        if (m.group(14) != null) {
            return change(7, 0, 0, 0, 0);
        }
        return change(8, Integer.parseInt(m.group(16)), 0, 0, 0);
    }

    private static int letter(String s) {
        return s.charAt(0) - 'a';
    }

    private void remember(State before) {
        history.add(before);
        if (history.size() == 5) {
            history.remove(0);
        }
    }

    // ---- all calls, by their numbers in Calls

    int call(int kind, int a, int b, int c, int d) {
        State before = now.copy();
        if (kind <= 8) {
            int answer = change(kind, a, b, c, d);
            if (answer < 0) {
                now = before;
            } else {
                remember(before);
            }
            return answer;
        }
        switch (kind) {
            case 9: return markOf(a, b, c);
            case 10: return nameOf(a, b);
            case 11: return chairOf(a, b);
            case 12: return orderOf(a, b);
            case 13: return count(a);
            case 14: return forecast(before, sends(a, b, c));
            case 15: return forecast(before, idleIn());
            case 16: return forecast(before, knownIn(a));
            case 17: return undo();
            case 18: return type(a);
            case 19: return clearText();
            case 20: return forecast(before, a < 0 || a > 2 ? INVALID : doText()[a]);
            default: return play(before);
        }
    }

    private int forecast(State before, int answer) {
        now = before;
        return answer;
    }

    private int undo() {
        if (history.isEmpty()) {
            return IMPOSSIBLE;
        }
        now = history.remove(history.size() - 1);
        return history.size();
    }

    private int type(int character) {
        if (character < 32 || character > 126) {
            return INVALID;
        }
        if (text.length() == 80) {
            return LIMIT;
        }
        text += (char) character;
        return text.length();
    }

    private int clearText() {
        int length = text.length();
        text = "";
        return length;
    }

    private int play(State before) {
        int[] r = doText();
        if (r[0] != MISSING) {
            now = before;
            return IMPOSSIBLE;
        }
        remember(before);
        return r[3];
    }

    private int sends(int name, int one, int other) {
        int before = now.sent;
        try {
            int answer = order(0, name, one, other, false);
            return answer < 0 ? answer : now.sent - before;
        } catch (NoChair none) {
            return IMPOSSIBLE;
        }
    }

    private int idleIn() {
        int ticks = 0;
        while (!now.orders.isEmpty()) {
            oneTick();
            ticks++;
        }
        return ticks;
    }

    private int knownIn(int name) {
        if (name < 0 || name > 7) {
            return INVALID;
        }
        int ticks = 0;
        while (now.names[name].version != null && !now.names[name].version.known) {
            oneTick();
            ticks++;
        }
        return ticks;
    }

    private int markOf(int mark, int name, int what) {
        if (mark < 0 || mark >= now.marks.size() || name < 0 || name > 7 || what < 0 || what > 1) {
            return INVALID;
        }
        Name n = now.marks.get(mark).names[name];
        return what == 1 ? n.home : n.version == null ? MISSING : n.version.chair;
    }

    private static int willBe(Version v) {
        return v.maker == null ? v.value : result(v.maker.what, willBe(v.maker.one), willBe(v.maker.other));
    }

    private int namesThatHave(Version v) {
        int set = 0;
        for (int i = 0; i < 8; i++) {
            if (now.names[i].version == v) {
                set += 1 << i;
            }
        }
        return set;
    }

    private int nameOf(int name, int what) {
        if (name < 0 || name > 7 || what < 0 || what > 4) {
            return INVALID;
        }
        Name n = now.names[name];
        Version v = n.version;
        if (what == 2) {
            return n.home;
        }
        if (v == null) {
            return what == 0 || what == 4 ? n.home : MISSING;
        }
        if (what == 0) {
            return v.known ? v.value : MISSING;
        }
        return what == 1 ? v.chair : what == 3 ? Integer.bitCount(namesThatHave(v)) : willBe(v);
    }

    private int chairOf(int chair, int what) {
        if (chair < 0 || chair >= now.chairs.length || what < 0 || what > 5) {
            return INVALID;
        }
        Version v = now.chairs[chair];
        if (v == null || what == 0 && !v.known) {
            return MISSING;
        }
        int number = 0;
        switch (what) {
            case 0: return v.value;
            case 1: return namesThatHave(v);
            case 2:
                for (int i = 0; i < now.marks.size(); i++) {
                    for (Name n : now.marks.get(i).names) {
                        if (n.version == v) {
                            number |= 1 << i;
                        }
                    }
                }
                return number;
            case 3:
                for (Order o : now.orders) {
                    if (o.one == v || o.other == v) {
                        number++;
                    }
                }
                return number;
            case 4: return made(v) ? 1 : 0;
            default: return toSend(null, null) == v ? 1 : 0;
        }
    }

    private int orderOf(int index, int what) {
        if (index < 0 || index >= now.orders.size() || what < 0 || what > 6) {
            return INVALID;
        }
        Order o = now.orders.get(index);
        switch (what) {
            case 0: return o.what;
            case 1: return o.made.chair;
            case 2: return o.one.chair;
            case 3: return o.other.chair;
            case 4: return o.begun ? 1 : 0;
            case 5: return o.begun ? o.due - now.time : MISSING;
            default: return o.marks.size();
        }
    }

    private int count(int what) {
        int number = 0;
        switch (what) {
            case 0: return now.chairs.length;
            case 1:
                for (Version v : now.chairs) {
                    number += v == null ? 1 : 0;
                }
                return number;
            case 2:
                for (Name n : now.names) {
                    number += n.version == null ? 0 : 1;
                }
                return number;
            case 3: return now.orders.size();
            case 4:
                for (Order o : now.orders) {
                    number += o.begun ? 1 : 0;
                }
                return number;
            case 5: return now.done;
            case 6: return now.time;
            case 7: return now.marks.size();
            case 8: return now.sent;
            case 9: return now.sat;
            case 10: return history.size();
            case 11: return text.length();
            case 20: case 21: case 22: case 23: return now.settings[what - 20];
            default: return INVALID;
        }
    }
}
