/** Counts the answers that are not as due, and tells them. */
final class Checks {
    private static int wrong = 0;

    private Checks() {
    }

    static void due(String call, int got, int want) {
        if (got != want) {
            tell(call + " answered " + got + ", due is " + want);
        }
    }

    static void same(String what, String got, String want) {
        if (!got.equals(want)) {
            tell(what + ":\n  is  " + got + "\n  due " + want);
        }
    }

    static void tell(String fault) {
        wrong++;
        if (wrong <= 40) {
            System.out.println(fault);
        }
    }

    static boolean allRight() {
        return wrong == 0;
    }

    /** Ends the run of a test class: with exit code 1 if an answer was not as due. */
    static void end(String tests) {
        System.out.println(tests + ": " + (wrong == 0 ? "all as due" : wrong + " not as due"));
        if (wrong != 0) {
            System.exit(1);
        }
    }

    static void typeAll(ChairNames x, String text) {
        for (int i = 0; i < text.length(); i++) {
            x.type(text.charAt(i));
        }
    }

    /** All that an object tells without being changed, for comparing it before and after a call. */
    static String all(ChairNames x) {
        StringBuilder s = new StringBuilder();
        for (int name = 0; name < 8; name++) {
            s.append("\n name ").append(name).append(':');
            for (int what = 0; what <= 4; what++) {
                s.append(' ').append(x.nameOf(name, what));
            }
            s.append(" known in ").append(x.knownIn(name));
        }
        for (int chair = 0; chair < 7; chair++) {
            s.append("\n chair ").append(chair).append(':');
            for (int what = 0; what <= 5; what++) {
                s.append(' ').append(x.chairOf(chair, what));
            }
        }
        for (int index = 0; index < 6; index++) {
            s.append("\n order ").append(index).append(':');
            for (int what = 0; what <= 6; what++) {
                s.append(' ').append(x.orderOf(index, what));
            }
        }
        for (int mark = 0; mark < 3; mark++) {
            s.append("\n mark ").append(mark).append(':');
            for (int name = 0; name < 8; name++) {
                s.append(' ').append(x.markOf(mark, name, 0)).append('/').append(x.markOf(mark, name, 1));
            }
        }
        s.append("\n counts:");
        for (int what = 0; what <= 23; what++) {
            s.append(' ').append(x.count(what));
        }
        s.append("\n fault: ").append(x.fault(0)).append(' ').append(x.fault(1)).append(' ').append(x.fault(2));
        s.append(" idle in ").append(x.idleIn());
        return s.toString();
    }
}
