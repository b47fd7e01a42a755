import java.util.Random;

/** Long runs of calls, drawn from told seeds, on the program and on the model: all answers are the same. */
public final class ModelTest {
    private static final int RUNS = 600;
    private static final int CALLS = 512;
    private static final int[] EDGES = {-1, 0, 1, Integer.MIN_VALUE, Integer.MAX_VALUE, 16, 20, 99, 100, 200, -2};

    private final Check check;
    private final Random random;
    private final PromisedSlots x = new PromisedSlots();
    private final Model m = new Model();

    private ModelTest(Check check, int seed) {
        this.check = check;
        this.random = new Random(seed);
    }

    public static void main(String[] args) {
        Check check = new Check("ModelTest");
        int runs = args.length == 0 ? RUNS : Integer.parseInt(args[0]);
        for (int run = 0; run < runs; run++) {
            check.part("run " + run);
            new ModelTest(check, run).calls(run);
        }
        check.end();
    }

    private void calls(int run) {
        int left = CALLS;
        if (run % 3 != 0) {
            writeText(false);
            same("lay", x.lay(), m.lay());
        }
        while (left-- > 0) {
            call();
            if (left % 32 == 0) {
                compareAll();
            }
        }
    }

    private void same(String call, int got, int want) {
        check.due(call, got, want);
    }

    private int below(int n) {
        return random.nextInt(Math.max(1, n));
    }

    /** A number from 0 to less than n, now and then one of the edges instead. */
    private int about(int n) {
        return below(40) == 0 ? EDGES[below(EDGES.length)] : below(20) == 0 ? n : below(n);
    }

    private void call() {
        int kind = below(100);
        if (kind < 4) {
            text();
        } else if (kind < 8) {
            int p = about(m.count(0));
            int o = about(m.count(3));
            same("nest " + p + " " + o, x.nest(p, o), m.nest(p, o));
        } else if (kind < 10) {
            int z = about(65521);
            same("seed " + z, x.seed(z), m.seed(z));
        } else if (kind < 16) {
            int d = about(m.count(1));
            int c = about(m.count(0));
            same("join " + d + " " + c, x.join(d, c), m.join(d, c));
        } else if (kind < 19) {
            int d = about(m.count(1));
            same("drop " + d, x.drop(d), m.drop(d));
        } else if (kind < 45) {
            int d = about(m.count(1));
            int k = about(2);
            int many = about(below(3) == 0 ? 100 : 8);
            same("load " + d + " " + k + " " + many, x.load(d, k, many), m.load(d, k, many));
        } else if (kind < 52) {
            int d = about(m.count(1));
            int n = about(10);
            same("deafen " + d + " " + n, x.deafen(d, n), m.deafen(d, n));
        } else if (kind < 58) {
            int d = about(m.count(1));
            same("scan " + d, x.scan(d), m.scan(d));
        } else if (kind < 70) {
            int d = about(m.count(1));
            int n = 1 + about(below(3) == 0 ? 15 : 3);
            same("ask " + d + " " + n, x.ask(d, n), m.ask(d, n));
        } else if (kind < 73) {
            int d = about(m.count(1));
            same("release " + d, x.release(d), m.release(d));
        } else if (kind < 88) {
            int n = below(4) == 0 ? about(21) : 1 + below(4);
            same("run " + n, x.run(n), m.run(n));
        } else {
            query();
        }
    }

    private void query() {
        int a = about(8);
        int b = about(14);
        int c = about(4);
        int i = below(9) - 2;
        int t = about(400);
        same("promise " + a + " " + i + " " + c, x.promise(a, i, c), m.promise(a, i, c));
        same("air " + c + " " + t, x.air(c, t), m.air(c, t));
        same("coordinator " + c + " " + b, x.coordinator(c, b), m.coordinator(c, b));
        same("device " + a + " " + b, x.device(a, b), m.device(a, b));
        same("count " + b, x.count(b), m.count(b));
        same("cause " + c, x.cause(c), m.cause(c));
    }

    private void text() {
        int kind = below(8);
        if (kind == 0) {
            writeText(false);
            same("lay", x.lay(), m.lay());
        } else if (kind < 5) {
            writeText(true);
            same("fault", x.fault(), m.fault());
            same("lay", x.lay(), m.lay());
        } else if (kind == 5) {
            int letter = about(127);
            same("write " + letter, x.write(letter), m.write(letter));
        } else if (kind == 6) {
            same("wipe", x.wipe(), m.wipe());
        } else {
            same("fault", x.fault(), m.fault());
        }
        for (int i = -1; i < 4; i++) {
            same("cause " + i, x.cause(i), m.cause(i));
        }
    }

    private void writeText(boolean spoilt) {
        same("wipe", x.wipe(), m.wipe());
        int b = below(6);
        int s = below(Math.min(3, b) + 1);
        StringBuilder text = new StringBuilder("o").append(b).append(s).append(1 + below(9)).append(';');
        int items = 1 + below(14);
        int coordinators = 1;
        text.append("d0").append(1 + below(8)).append(below(4)).append(';');
        int[] start = new int[4];
        for (int i = 0; i < items; i++) {
            int kind = below(10);
            if (kind < 2 && (coordinators < 4 && fits(start, coordinators, b, s) || spoilt)) {
                int offset = start[Math.min(3, coordinators)];
                text.append("c0").append(String.format("%04d", offset)).append(';');
                coordinators++;
            } else if (kind < 9) {
                text.append('d').append(below(Math.min(4, coordinators))).append(1 + below(8)).append(below(4)).append(';');
            } else {
                text.append('l').append(1 + below(9)).append(';');
            }
        }
        if (spoilt) {
            spoil(text);
        }
        for (int i = 0; i < text.length(); i++) {
            same("write", x.write(text.charAt(i)), m.write(text.charAt(i)));
        }
    }

    /** Draws a start for one more coordinator; whether it has no tick in common with the others. */
    private boolean fits(int[] start, int many, int b, int s) {
        int beat = 48 << b;
        int active = 48 << s;
        start[many] = below(beat);
        for (int c = 0; c < many; c++) {
            int apart = Math.floorMod(start[many] - start[c], beat);
            if (apart < active || beat - apart < active) {
                return false;
            }
        }
        return true;
    }

    private void spoil(StringBuilder text) {
        String letters = "0123456789;ocdlx ";
        for (int i = below(3); i > 0; i--) {
            int at = below(text.length());
            char letter = letters.charAt(below(letters.length()));
            int kind = below(4);
            if (kind == 0) {
                text.insert(at, letter);
            } else if (kind == 1) {
                text.deleteCharAt(at);
            } else if (kind == 2) {
                text.setCharAt(at, letter);
            } else {
                text.setLength(at + 1);
            }
        }
    }

    private void compareAll() {
        for (int what = -1; what < 15; what++) {
            same("count " + what, x.count(what), m.count(what));
            for (int d = -1; d < 9; d++) {
                same("device " + d + " " + what, x.device(d, what), m.device(d, what));
            }
        }
        for (int c = -1; c < 5; c++) {
            for (int what = -1; what < 7; what++) {
                same("coordinator " + c + " " + what, x.coordinator(c, what), m.coordinator(c, what));
                for (int i = -2; i < 8; i++) {
                    same("promise " + c + " " + i + " " + what, x.promise(c, i, what), m.promise(c, i, what));
                }
            }
            for (int t = -1; t <= 384; t++) {
                same("air " + c + " " + t, x.air(c, t), m.air(c, t));
            }
        }
    }
}
