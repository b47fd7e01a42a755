/** Promises 18 to 21: air, coordinator, device, count. */
public final class TellTest {
    private static final Check check = new Check("TellTest");
    private static final int LOW = Integer.MIN_VALUE, HIGH = Integer.MAX_VALUE;

    public static void main(String[] args) {
        air();
        airOfTheLastPart();
        coordinator();
        device();
        count();
        countOrders();
        constants();
        check.end();
    }

    private static void air() {
        check.part("promise 18");
        PromisedSlots x = new PromisedSlots();
        for (int c : new int[] {-1, 3, LOW, HIGH}) {
            check.due("bad coordinator " + c, x.air(c, 0), PromisedSlots.BAD);
        }
        for (int t : new int[] {-1, 96, LOW, HIGH}) {
            check.due("bad ahead of none " + t, x.air(0, t), PromisedSlots.BAD);
        }
        check.due("none yet", x.air(0, 0), PromisedSlots.NONE);
        check.due("none yet", x.air(0, 95), PromisedSlots.NONE);
        x.run(1);
        check.due("the beacon", x.air(0, 0), 1);
        check.due("the last tick", x.air(0, 95), 0);
        check.due("none of 1 yet", x.air(1, 0), PromisedSlots.NONE);
        for (int t : new int[] {-1, 96, LOW, HIGH}) {
            check.due("bad tick " + t, x.air(0, t), PromisedSlots.BAD);
        }
        PromisedSlots y = Check.laid("o531;d081;d071;d061;d051;d041;d031;d021;d080;");
        check.due("the longest part", y.air(0, 383), PromisedSlots.NONE);
        check.due("behind it", y.air(0, 384), PromisedSlots.BAD);
        y.ask(7, 1);
        y.load(7, 1, 9);
        y.run(1);
        check.due("device 7 in its slot", y.air(0, 360), 17);
        check.due("to the last tick", y.air(0, 383), 17);
        check.due("ahead of it", y.air(0, 359), 0);
    }

    private static void airOfTheLastPart() {
        check.part("promise 18, the last part");
        PromisedSlots x = new PromisedSlots();
        x.load(5, 0, 1);
        x.seed(0);
        x.run(3);
        int at = 0;
        for (int t = 1; t < 96; t++) {
            if (x.air(2, t) == 15) {
                at = t;
            }
        }
        check.isTrue("device 5 sent", at > 3);
        x.run(2);
        check.due("the others' parts leave it", x.air(2, at), 15);
        x.run(1);
        check.due("its next part is quiet", x.air(2, at), 0);
        check.due("but for the beacon", x.air(2, 0), 1);
    }

    private static void coordinator() {
        check.part("promise 19");
        PromisedSlots x = new PromisedSlots();
        for (int c : new int[] {-1, 3, LOW, HIGH}) {
            check.due("bad coordinator " + c, x.coordinator(c, 0), PromisedSlots.BAD);
        }
        for (int what : new int[] {-1, 6, LOW, HIGH}) {
            check.due("bad what " + what, x.coordinator(0, what), PromisedSlots.BAD);
        }
        x.nest(2, 200);
        x.ask(0, 5);
        x.join(1, 3);
        x.run(6);
        int[][] want = {{0, -4, 11, 5, 1536, 2}, {192, 0, 16, 24, 1728, 2}, {400, 0, 16, 32, 1168, 1}, {600, 2, 16, 2, 1368, 1}};
        for (int c = 0; c < 4; c++) {
            for (int what = 0; what < 6; what++) {
                check.due("coordinator " + c + " " + what, x.coordinator(c, what), want[c][what]);
            }
        }
    }

    private static void device() {
        check.part("promise 20");
        PromisedSlots x = new PromisedSlots();
        for (int d : new int[] {-1, 6, LOW, HIGH}) {
            check.due("bad device " + d, x.device(d, 0), PromisedSlots.BAD);
        }
        for (int what : new int[] {-1, 14, LOW, HIGH}) {
            check.due("bad what " + what, x.device(0, what), PromisedSlots.BAD);
        }
        // Two that are hurt twice and then held, one that is deaf and has missed one, one with frames of both kinds.
        PromisedSlots y = Check.laid("o003;d010;d010;d023;d031;");
        y.ask(3, 13);
        y.load(0, 0, 1);
        y.load(1, 0, 2);
        y.deafen(2, 3);
        y.load(2, 0, 7);
        y.load(3, 1, 20);
        check.due("run", y.run(1), 13);
        int[][] want = {{0, 1, 0, 1, 0, 0, 0, 0, 0, 3, 0, 0, 2, 2}, {0, 1, 0, 2, 0, 0, 0, 0, 0, 3, 0, 0, 2, 2},
            {0, 2, 3, 7, 0, 0, 0, 1, 2, 0, 3, 0, 0, 0}, {0, 3, 1, 0, 7, 13, 0, 0, 0, 0, 1, 0, 0, 0}};
        for (int d = 0; d < 4; d++) {
            for (int what = 0; what < 14; what++) {
                check.due("device " + d + " " + what, y.device(d, what), want[d][what]);
            }
        }
        y.run(1);
        check.due("given up", y.device(0, 6), 1);
        check.due("given up", y.device(1, 6), 1);
        y.deafen(2, 9);
        y.run(2);
        check.due("an orphan", y.device(2, 0), PromisedSlots.NONE);
        check.due("it missed four", y.device(2, 7), 4);
        check.due("its frames stay", y.device(2, 3), 7);
    }

    private static void count() {
        check.part("promise 21");
        PromisedSlots x = new PromisedSlots();
        for (int what : new int[] {-1, 13, LOW, HIGH}) {
            check.due("bad " + what, x.count(what), PromisedSlots.BAD);
        }
        x.nest(0, 600);
        x.deafen(0, 9);
        x.deafen(1, 9);
        x.run(17);
        x.seed(1234);
        x.nest(0, 0);
        x.ask(2, 15);
        Check.write(x, "abc");
        int[] want = {4, 6, 3168, 768, 96, 6, 8, 3, 1234, 2, 3, 2, 17};
        for (int what = 0; what < want.length; what++) {
            check.due("count " + what, x.count(what), want[what]);
        }
        x.scan(0);
        check.due("one orphan less", x.count(11), 1);
        x.fault();
        check.due("causes", x.count(9), 2);
    }

    private static void countOrders() {
        check.part("promise 21, orders");
        for (int b = 0; b <= 5; b++) {
            for (int s = 0; s <= 3 && s <= b; s++) {
                int m = 1 + (b + s) % 9;
                PromisedSlots x = Check.laid("o" + b + s + m + ";d010;l" + m + ";");
                check.due("a beat", x.count(3), 48 * (int) Math.pow(2, b));
                check.due("an active part", x.count(4), 48 * (int) Math.pow(2, s));
                check.due("a slot", x.count(5), 3 * (int) Math.pow(2, s));
                check.due("least", x.count(6), m);
                check.due("life", x.count(7), m);
                x.run(2);
                check.due("now", x.count(2), x.count(3) + x.count(4));
                check.due("next beacon", x.coordinator(0, 4), 2 * x.count(3));
            }
        }
    }

    private static void constants() {
        check.part("the constants");
        check.due("BAD", PromisedSlots.BAD, -1);
        check.due("NO", PromisedSlots.NO, -2);
        check.due("FULL", PromisedSlots.FULL, -3);
        check.due("NONE", PromisedSlots.NONE, -4);
    }
}
