/** The calls of the class by number, for tests that make them from lists. */
final class Calls {
    static final int BEGIN = 0;
    static final int PUT = 1;
    static final int COPY = 2;
    static final int ORDER = 3;
    static final int TICK = 4;
    static final int SET = 5;
    static final int MARK = 6;
    static final int KEEP = 7;
    static final int BACK = 8;
    static final int MARK_OF = 9;
    static final int NAME_OF = 10;
    static final int CHAIR_OF = 11;
    static final int ORDER_OF = 12;
    static final int COUNT = 13;
    static final int SENDS = 14;
    static final int IDLE_IN = 15;
    static final int KNOWN_IN = 16;
    static final int UNDO = 17;
    static final int TYPE = 18;
    static final int CLEAR_TEXT = 19;
    static final int FAULT = 20;
    static final int PLAY = 21;

    /** An object is used for so many calls; what later ones answer is free. */
    static final int PROMISED = 512;

    private static final String[] NAMES = {"begin", "put", "copy", "order", "tick", "set", "mark", "keep", "back",
        "markOf", "nameOf", "chairOf", "orderOf", "count", "sends", "idleIn", "knownIn", "undo", "type", "clearText",
        "fault", "play"};
    private static final int[] ARGUMENTS = {1, 2, 2, 4, 1, 2, 0, 0, 1, 3, 2, 2, 2, 1, 3, 0, 1, 0, 1, 0, 1, 0};

    private Calls() {
    }

    static int kinds() {
        return NAMES.length;
    }

    /** The number of a call, -1 if there is none of this name with so many arguments. */
    static int kindOf(String name, int arguments) {
        for (int kind = 0; kind < NAMES.length; kind++) {
            if (NAMES[kind].equals(name) && ARGUMENTS[kind] == arguments) {
                return kind;
            }
        }
        return -1;
    }

    static String nameOf(int kind) {
        return NAMES[kind];
    }

    /** A call as it would be written; arguments that it doesn't take are left out. */
    static String told(int kind, int a, int b, int c, int d) {
        int[] all = {a, b, c, d};
        StringBuilder s = new StringBuilder(NAMES[kind]).append('(');
        for (int i = 0; i < ARGUMENTS[kind]; i++) {
            s.append(i == 0 ? "" : ", ").append(all[i]);
        }
        return s.append(')').toString();
    }

    static int make(ChairNames x, int kind, int a, int b, int c, int d) {
        switch (kind) {
            case BEGIN: return x.begin(a);
            case PUT: return x.put(a, b);
            case COPY: return x.copy(a, b);
            case ORDER: return x.order(a, b, c, d);
            case TICK: return x.tick(a);
            case SET: return x.set(a, b);
            case MARK: return x.mark();
            case KEEP: return x.keep();
            case BACK: return x.back(a);
            case MARK_OF: return x.markOf(a, b, c);
            case NAME_OF: return x.nameOf(a, b);
            case CHAIR_OF: return x.chairOf(a, b);
            case ORDER_OF: return x.orderOf(a, b);
            case COUNT: return x.count(a);
            case SENDS: return x.sends(a, b, c);
            case IDLE_IN: return x.idleIn();
            case KNOWN_IN: return x.knownIn(a);
            case UNDO: return x.undo();
            case TYPE: return x.type(a);
            case CLEAR_TEXT: return x.clearText();
            case FAULT: return x.fault(a);
            case PLAY: return x.play();
            default: throw new IllegalArgumentException("no call " + kind);
        }
    }
}
