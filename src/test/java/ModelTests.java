/** Long mixed runs of calls, each answer compared with that of the model; the same runs each time. */
public final class ModelTests {
    private static final int RUNS = 4000;
    private static final int[] EDGES = {Integer.MIN_VALUE, -10001, -1, 0, 1, 2, 3, 4, 5, 6, 7, 8, 9, 10, 11, 12, 19, 20,
        23, 24, 31, 32, 99, 100, 126, 127, 9999, 10000, 50000, 65536, Integer.MAX_VALUE};
    private static final String SIGNS = "abchi 0129;;; AZ~@#";

    private long seed;
    private ChairNames x;
    private Model model;
    private int left;
    private final StringBuilder log = new StringBuilder();

    private ModelTests(long seed) {
        this.seed = seed;
        this.x = new ChairNames();
        this.model = new Model();
        this.left = Calls.PROMISED;
    }

    public static void main(String[] args) {
        for (int run = 1; run <= RUNS && Checks.allRight(); run++) {
            new ModelTests(run * 7919L).go(run % 8);
        }
        Checks.end("ModelTests");
    }

    /** A run of its own mood: how often names are few, orders many, texts long, arguments wild. */
    private void go(int mood) {
        if (mood != 0) {
            call(0, 3 + below(5), 0, 0, 0);
        }
        while (left > 0 && Checks.allRight()) {
            int dice = below(100);
            if (dice < 3) {
                call(below(Calls.kinds()), wild(), wild(), wild(), wild());
            } else if (dice < (mood == 1 ? 20 : 5)) {
                text();
            } else if (dice < 55) {
                change(mood);
            } else {
                question();
            }
        }
    }

    private void change(int mood) {
        int dice = below(100);
        int names = mood == 2 ? 3 : 8;
        if (dice < (mood == 3 ? 5 : 20)) {
            call(1, below(names), below(3) == 0 ? 9990 + below(10) : below(10000), 0, 0);
        } else if (dice < 32) {
            call(2, below(names), below(names), 0, 0);
        } else if (dice < 68) {
            call(3, below(3), below(names), below(names), below(names));
        } else if (dice < (mood == 4 ? 71 : 80)) {
            call(4, below(8) == 0 ? 1 + below(99) : 1 + below(3), 0, 0, 0);
        } else if (dice < 83) {
            int what = below(4);
            call(5, what, what == 3 ? 1 + below(3) : below(10), 0, 0);
        } else if (dice < 88) {
            call(6, 0, 0, 0, 0);
        } else if (dice < 91) {
            call(7, 0, 0, 0, 0);
        } else if (dice < 95) {
            call(8, below(3), 0, 0, 0);
        } else if (dice < 99) {
            call(17, 0, 0, 0, 0);
        } else if (below(4) == 0) {
            call(0, 3 + below(5), 0, 0, 0);
        }
    }

    private void question() {
        int dice = below(20);
        if (dice < 2) {
            call(9, below(3), below(8), below(2), 0);
        } else if (dice < 5) {
            call(10, below(8), below(5), 0, 0);
        } else if (dice < 10) {
            call(11, below(7), below(6), 0, 0);
        } else if (dice < 13) {
            call(12, below(6), below(7), 0, 0);
        } else if (dice < 15) {
            call(13, below(12), 0, 0, 0);
        } else if (dice < 17) {
            call(14, below(8), below(8), below(8), 0);
        } else if (dice < 18) {
            call(15, 0, 0, 0, 0);
        } else {
            call(16, below(8), 0, 0, 0);
        }
    }

    private void text() {
        if (below(3) > 0) {
            call(19, 0, 0, 0, 0);
        }
        int commands = below(6);
        for (int i = 0; i < commands; i++) {
            String command = command();
            for (int k = 0; k < command.length(); k++) {
                int sign = below(200) == 0 ? SIGNS.charAt(below(SIGNS.length())) : command.charAt(k);
                if (below(200) != 0) {
                    call(18, sign, 0, 0, 0);
                }
            }
        }
        for (int i = 0; i < 3; i++) {
            call(20, i, 0, 0, 0);
            call(21, 0, 0, 0, 0);
        }
    }

    private String command() {
        switch (below(9)) {
            case 0: return "put " + name() + " " + below(12000) + ";";
            case 1: return "copy " + name() + " " + name() + ";";
            case 2: return "add " + name() + " " + name() + " " + name() + ";";
            case 3: return "sub " + name() + " " + name() + " " + name() + ";";
            case 4: return "mul " + name() + " " + name() + " " + name() + ";";
            case 5: return "tick " + (below(9) == 0 ? "0" : "") + below(below(9) == 0 ? 110 : 5) + ";";
            case 6: return "mark;";
            case 7: return "keep;";
            default: return "back " + below(3) + ";";
        }
    }

    private char name() {
        return (char) ('a' + below(below(50) == 0 ? 9 : 8));
    }

    private int wild() {
        return below(3) == 0 ? EDGES[below(EDGES.length)] : below(9);
    }

    private void call(int kind, int a, int b, int c, int d) {
        if (left <= 0 || !Checks.allRight()) {
            return;
        }
        left--;
        log.append(Calls.told(kind, a, b, c, d)).append('\n');
        int got = Calls.make(x, kind, a, b, c, d);
        int want = model.call(kind, a, b, c, d);
        if (got != want) {
            System.out.println(log);
        }
        Checks.due(Calls.told(kind, a, b, c, d), got, want);
    }

    /** The next number of a fixed row, from 0 to bound - 1. */
    private int below(int bound) {
        seed = seed * 6364136223846793005L + 1442695040888963407L;
        return (int) ((seed >>> 33) % bound);
    }
}
