/** Promises 14 to 16: ask, release, promise; and what a run does with promised slots. */
public final class SlotsTest {
    private static final Check check = new Check("SlotsTest");
    private static final int LOW = Integer.MIN_VALUE, HIGH = Integer.MAX_VALUE;
    private static final String EIGHT = "o009;d010;d010;d010;d010;d010;d010;d010;d010;";

    public static void main(String[] args) {
        ask();
        askRefused();
        askFull();
        release();
        promise();
        kept();
        unfit();
        idle();
        idleComesUp();
        deafHolder();
        check.end();
    }

    private static void ask() {
        check.part("promise 14");
        PromisedSlots x = Check.laid("o001;d010;d010;d010;");
        check.due("first", x.ask(2, 1), 15);
        check.due("second", x.ask(0, 4), 11);
        check.due("third, down to the least", x.ask(1, 10), 1);
        check.due("shared", x.coordinator(0, 2), 1);
        check.due("no causes", x.count(9), 0);
        check.due("all but one", Check.laid("o001;d010;").ask(0, 15), 1);
        PromisedSlots y = new PromisedSlots();
        check.due("at 1", y.ask(3, 2), 14);
        check.due("at 0", y.ask(0, 3), 13);
        check.due("at 2", y.ask(5, 8), 8);
        check.due("shared at 0", y.coordinator(0, 2), 13);
        check.due("shared at 1", y.coordinator(1, 2), 14);
        check.due("shared at 2", y.coordinator(2, 2), 8);
    }

    private static void refused(PromisedSlots x, int d, int n, int want, int why, int left) {
        String call = "ask " + d + " " + n;
        check.due(call, x.ask(d, n), want);
        check.due(call + " cause 0", x.cause(0), why);
        check.due(call + " cause 1", x.cause(1), left);
        check.due(call + " cause 2", x.cause(2), PromisedSlots.NONE);
    }

    private static void askRefused() {
        check.part("promise 14, refused");
        PromisedSlots x = new PromisedSlots();
        for (int d : new int[] {-1, 6, LOW, HIGH}) {
            refused(x, d, 1, PromisedSlots.BAD, 18, PromisedSlots.NONE);
        }
        for (int n : new int[] {0, 16, -1, LOW, HIGH}) {
            refused(x, 0, n, PromisedSlots.BAD, 18, PromisedSlots.NONE);
        }
        x.ask(0, 2);
        refused(x, 0, 2, PromisedSlots.NO, 15, PromisedSlots.NONE);
        refused(x, 0, 15, PromisedSlots.NO, 15, PromisedSlots.NONE);
        refused(x, 0, 16, PromisedSlots.BAD, 18, PromisedSlots.NONE);
        x.drop(1);
        refused(x, 1, 1, PromisedSlots.NO, 15, PromisedSlots.NONE);
        x.deafen(3, 4);
        x.run(12);
        refused(x, 3, 1, PromisedSlots.NO, 15, PromisedSlots.NONE);
        x.scan(3);
        check.due("home again", x.ask(3, 1), 15);
        check.due("the promise of 0 went idle", x.promise(0, -1, 0), 0);
    }

    private static void askFull() {
        check.part("promise 14, full");
        PromisedSlots x = Check.laid(EIGHT);
        refused(x, 0, 8, PromisedSlots.FULL, 17, 38);
        refused(x, 0, 15, PromisedSlots.FULL, 17, 31);
        for (int d = 0; d < 7; d++) {
            check.due("ask " + d, x.ask(d, 1), 15 - d);
        }
        refused(x, 7, 1, PromisedSlots.FULL, 16, PromisedSlots.NONE);
        refused(x, 7, 15, PromisedSlots.FULL, 16, PromisedSlots.NONE);
        refused(x, 6, 1, PromisedSlots.NO, 15, PromisedSlots.NONE);
        check.due("shared", x.coordinator(0, 2), 9);
        x.release(3);
        check.due("one has gone", x.ask(7, 1), 9);
        PromisedSlots y = Check.laid("o003;d010;d010;");
        y.ask(0, 13);
        refused(y, 1, 1, PromisedSlots.FULL, 17, 32);
        refused(y, 1, 3, PromisedSlots.FULL, 17, 30);
        refused(y, 1, 4, PromisedSlots.FULL, 17, 30);
        refused(y, 1, 15, PromisedSlots.FULL, 17, 30);
        check.due("shared", y.coordinator(0, 2), 3);
    }

    private static void release() {
        check.part("promise 15");
        PromisedSlots x = new PromisedSlots();
        for (int d : new int[] {-1, 6, LOW, HIGH}) {
            check.due("bad " + d, x.release(d), PromisedSlots.BAD);
        }
        check.due("none", x.release(0), PromisedSlots.NO);
        x.ask(0, 1);
        x.ask(1, 2);
        x.ask(2, 4);
        check.due("another coordinator's device", x.release(3), PromisedSlots.NO);
        check.due("the middle one", x.release(1), 2);
        check.due("promises", x.promise(0, -1, 0), 2);
        check.due("first", x.promise(0, 0, 1), 15);
        check.due("moved up", x.promise(0, 1, 1), 11);
        check.due("again", x.release(1), PromisedSlots.NO);
        check.due("the first one", x.release(0), 1);
        check.due("moved up", x.promise(0, 0, 1), 12);
        check.due("its device", x.promise(0, 0, 0), 2);
        check.due("behind it", x.ask(0, 3), 9);
        check.due("the last one", x.release(0), 3);
        check.due("shared", x.coordinator(0, 2), 12);
        PromisedSlots y = Check.laid("o001;d010;l9;");
        y.ask(0, 5);
        y.deafen(0, 9);
        y.run(4);
        check.due("an orphan", y.count(11), 1);
        check.due("lets go", y.release(0), 5);
    }

    private static void promise() {
        check.part("promise 16");
        PromisedSlots x = new PromisedSlots();
        x.ask(2, 3);
        x.ask(0, 2);
        for (int c : new int[] {-1, 3, LOW, HIGH}) {
            check.due("bad coordinator " + c, x.promise(c, 0, 0), PromisedSlots.BAD);
            check.due("bad coordinator " + c, x.promise(c, -1, 0), PromisedSlots.BAD);
        }
        for (int what : new int[] {-1, 4, LOW, HIGH}) {
            check.due("bad what " + what, x.promise(0, 0, what), PromisedSlots.BAD);
            check.due("bad ahead of none " + what, x.promise(0, 2, what), PromisedSlots.BAD);
        }
        check.due("below -1", x.promise(0, -2, 0), PromisedSlots.BAD);
        check.due("lowest", x.promise(0, LOW, 0), PromisedSlots.BAD);
        int[][] want = {{2, 13, 3, 0}, {0, 11, 2, 0}};
        for (int what = 0; what < 4; what++) {
            check.due("how many", x.promise(0, -1, what), 2);
            check.due("promise 0 " + what, x.promise(0, 0, what), want[0][what]);
            check.due("promise 1 " + what, x.promise(0, 1, what), want[1][what]);
            check.due("promise 2 " + what, x.promise(0, 2, what), PromisedSlots.NONE);
            check.due("highest " + what, x.promise(0, HIGH, what), PromisedSlots.NONE);
            check.due("of 1 " + what, x.promise(1, 0, what), PromisedSlots.NONE);
        }
        check.due("how many of 1", x.promise(1, -1, 0), 0);
    }

    private static void kept() {
        check.part("promise 17, promised slots");
        // A slot has 6 ticks. Device 0 (length 4) has slots 14 and 15, device 1 (length 5) slots 11 to 13.
        PromisedSlots x = Check.laid("o118;d040;d050;d010;l2;");
        x.ask(0, 2);
        x.ask(1, 3);
        x.load(0, 1, 10);
        x.load(1, 1, 2);
        check.due("3 frames of 4 in 12 ticks, 2 of 5", x.run(1), 5);
        airIs(x, 66, 76, 11);
        airIs(x, 76, 84, 0);
        airIs(x, 84, 96, 10);
        airIs(x, 0, 1, 1);
        airIs(x, 1, 66, 0);
        check.due("left", x.device(0, 4), 7);
        check.due("sent", x.device(0, 5), 3);
        check.due("left", x.device(1, 4), 0);
        check.due("sent", x.device(1, 5), 2);
        check.due("idle", x.promise(0, 0, 3), 0);
        check.due("idle", x.promise(0, 1, 3), 0);
        check.due("3 more", x.run(1), 3);
        check.due("idle", x.promise(0, 1, 3), 1);
        check.due("3 and 1", x.run(2), 4);
        check.due("it went at the beacon", x.promise(0, -1, 0), 1);
        x.load(1, 1, 1);
        check.due("no promise, no slots", x.run(1), 0);
        check.due("its frame stays", x.device(1, 4), 1);
    }

    private static void airIs(PromisedSlots x, int from, int to, int want) {
        for (int t = from; t < to; t++) {
            check.due("air at " + t, x.air(0, t), want);
        }
    }

    private static void unfit() {
        check.part("promise 17, what does not fit");
        // A slot has 3 ticks: one frame of 4 is too long for one slot, and leaves 2 of 6 ticks free.
        PromisedSlots x = Check.laid("o001;d040;d040;l1;");
        x.ask(0, 1);
        x.ask(1, 2);
        x.load(0, 1, 5);
        x.load(1, 1, 5);
        check.due("one frame", x.run(1), 1);
        airIs(x, 39, 43, 11);
        airIs(x, 43, 48, 0);
        check.due("too long is idle", x.promise(0, 0, 3), 1);
        check.due("the other is not", x.promise(0, 1, 3), 0);
        check.due("one frame", x.run(1), 1);
        check.due("idle for a life of 1", x.promise(0, -1, 0), 1);
        airIs(x, 42, 46, 11);
        airIs(x, 46, 48, 0);
        airIs(x, 39, 42, 0);
    }

    private static void idle() {
        check.part("promise 17, idle");
        for (int life = 1; life <= 9; life++) {
            PromisedSlots x = Check.laid("o001;d010;l" + life + ";");
            x.ask(0, 3);
            for (int i = 1; i <= life; i++) {
                x.run(1);
                check.due("idle", x.promise(0, 0, 3), i);
            }
            x.load(0, 1, 9);
            check.due("it goes ahead of all else", x.run(1), 0);
            check.due("gone", x.promise(0, -1, 0), 0);
            check.due("shared", x.coordinator(0, 2), 16);
            x.ask(0, 1);
            check.due("asked anew", x.promise(0, 0, 3), 0);
            check.due("sends", x.run(1), 3);
        }
        PromisedSlots y = Check.laid("o001;d010;d010;d010;l2;");
        y.ask(0, 1);
        y.ask(1, 2);
        y.ask(2, 3);
        y.load(1, 1, 99);
        y.run(1);
        y.load(2, 1, 1);
        y.run(2);
        check.due("the first went, the third stays", y.promise(0, -1, 0), 2);
        check.due("device", y.promise(0, 0, 0), 1);
        check.due("first slot", y.promise(0, 0, 1), 14);
        check.due("device", y.promise(0, 1, 0), 2);
        check.due("first slot", y.promise(0, 1, 1), 11);
        check.due("in a row", y.promise(0, 1, 3), 1);
        PromisedSlots z = Check.laid("o001;d010;d010;d010;l2;");
        z.ask(0, 1);
        z.ask(1, 2);
        z.ask(2, 3);
        z.load(2, 1, 99);
        check.due("9 of them", z.run(1), 9);
        check.due("9 of them", z.run(1), 9);
        check.due("9 of them", z.run(1), 9);
        check.due("two went at once", z.promise(0, -1, 0), 1);
        check.due("the last one's slot", z.promise(0, 0, 1), 13);
        airIs(z, 39, 48, 12);
    }

    private static void idleComesUp() {
        check.part("promise 15, idle parts come up too");
        PromisedSlots x = Check.laid("o001;d010;d010;d010;l9;");
        x.ask(0, 1);
        x.load(0, 1, 99);
        x.run(1);
        x.ask(1, 1);
        x.run(2);
        x.ask(2, 2);
        x.run(1);
        int[] idle = {0, 3, 1};
        for (int i = 0; i < 3; i++) {
            check.due("idle " + i, x.promise(0, i, 3), idle[i]);
        }
        check.due("release", x.release(0), 1);
        check.due("idle", x.promise(0, 0, 3), 3);
        check.due("idle", x.promise(0, 1, 3), 1);
        check.due("slots", x.promise(0, 0, 2), 1);
        check.due("slots", x.promise(0, 1, 2), 2);
    }

    private static void deafHolder() {
        check.part("promise 17, a holder that does not hear");
        PromisedSlots x = Check.laid("o001;d010;l9;");
        x.ask(0, 1);
        x.load(0, 1, 20);
        check.due("sends", x.run(1), 3);
        x.deafen(0, 5);
        check.due("deaf, it sends none", x.run(3), 0);
        check.due("idle", x.promise(0, 0, 3), 3);
        x.run(2);
        check.due("an orphan", x.count(11), 1);
        check.due("its promise stays, idle", x.promise(0, 0, 3), 5);
        check.due("home", x.scan(0), 0);
        check.due("still deaf to one", x.run(1), 0);
        check.due("missed", x.device(0, 7), 1);
        check.due("hears again", x.run(1), 3);
        check.due("idle for 0", x.promise(0, 0, 3), 0);
    }
}
