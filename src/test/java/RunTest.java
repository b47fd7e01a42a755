/** Promise 17: run. The ticks and draws were told by hand from the document. */
public final class RunTest {
    private static final Check check = new Check("RunTest");

    public static void main(String[] args) {
        badNumbers();
        oneSender();
        drawsOfOneSender();
        collisions();
        triesKeptOverParts();
        givenUpByLooks();
        exponentHasATop();
        heldAsItDoesNotFit();
        heldAsItStillWaits();
        heldFromTheFirstDrawOn();
        orderOfDraws();
        theEdgeOfFitting();
        lengthsThatDiffer();
        onlyWhoHeard();
        beaconsInOrder();
        promisedAndContended();
        check.end();
    }

    private static void badNumbers() {
        check.part("numbers");
        PromisedSlots x = new PromisedSlots();
        for (int n : new int[] {0, 21, -1, Integer.MIN_VALUE, Integer.MAX_VALUE}) {
            check.due("run " + n, x.run(n), PromisedSlots.BAD);
        }
        check.due("none went", x.count(12), 0);
        check.due("1", x.run(1), 0);
        check.due("20", x.run(20), 0);
        check.due("parts", x.count(12), 21);
    }

    /** All ticks of the root's air: the beacon, and then the ticks that are told as pairs of tick and value. */
    private static void airIs(PromisedSlots x, int[]... told) {
        int[] want = new int[x.count(4)];
        want[0] = 1;
        for (int[] pair : told) {
            want[pair[0]] = pair[1];
        }
        for (int t = 0; t < want.length; t++) {
            check.due("air at " + t, x.air(0, t), want[t]);
        }
    }

    /** What of a device: frames to contend, sent, given up, what it does, exponent, looks, tries, hurt. */
    private static void deviceIs(PromisedSlots x, int d, int... want) {
        int[] whats = {3, 5, 6, 9, 10, 11, 12, 13};
        for (int i = 0; i < whats.length; i++) {
            check.due("device " + d + " " + whats[i], x.device(d, whats[i]), want[i]);
        }
    }

    private static void oneSender() {
        check.part("one sender");
        PromisedSlots x = Check.laid("o001;d020;");
        x.load(0, 0, 2);
        check.due("run", x.run(1), 2);
        airIs(x, new int[][] {{3, 10}, {4, 10}, {7, 10}, {8, 10}});
        deviceIs(x, 0, 0, 2, 0, 0, 0, 0, 0, 0);
        check.due("seed", x.count(8), 22032);
        check.due("nothing to send", x.run(1), 0);
        airIs(x);
        check.due("none draws", x.count(8), 22032);
    }

    private static void drawsOfOneSender() {
        check.part("draws");
        // 51940 % 8 is 4: it looks at 5 and 6; 49888 % 8 is 0: it looks at 9 and 10.
        PromisedSlots x = Check.laid("o001;d023;");
        x.seed(5);
        x.load(0, 0, 2);
        check.due("run", x.run(1), 2);
        airIs(x, new int[][] {{7, 10}, {8, 10}, {11, 10}, {12, 10}});
        check.due("seed", x.count(8), 49888);
        deviceIs(x, 0, 0, 2, 0, 0, 3, 0, 0, 0);
    }

    private static void collisions() {
        check.part("collisions");
        PromisedSlots x = Check.laid("o001;d010;d010;");
        x.load(0, 0, 1);
        x.load(1, 0, 2);
        check.due("run", x.run(1), 1);
        airIs(x, new int[][] {{3, 2}, {6, 2}, {9, 2}, {12, 2}, {15, 11}});
        deviceIs(x, 0, 0, 0, 1, 0, 0, 0, 0, 4);
        deviceIs(x, 1, 0, 1, 1, 0, 0, 0, 0, 4);
    }

    private static void triesKeptOverParts() {
        check.part("tries");
        // 13 slots promised leave 3: K is 9, room for two frames that are hurt.
        PromisedSlots x = Check.laid("o001;d010;d010;d010;");
        x.ask(2, 13);
        x.load(0, 0, 1);
        x.load(1, 0, 1);
        check.due("run", x.run(1), 0);
        airIs(x, new int[][] {{3, 2}, {6, 2}});
        deviceIs(x, 0, 1, 0, 0, 3, 0, 0, 2, 2);
        deviceIs(x, 1, 1, 0, 0, 3, 0, 0, 2, 2);
        check.due("run", x.run(1), 0);
        airIs(x, new int[][] {{3, 2}, {6, 2}});
        deviceIs(x, 0, 0, 0, 1, 0, 0, 0, 0, 4);
        deviceIs(x, 1, 0, 0, 1, 0, 0, 0, 0, 4);
    }

    private static void givenUpByLooks() {
        check.part("looks");
        // Device 0 sends from 3 to 10. Device 1 draws 1, looks at 2, 3, and then at 5, 7, 9, 10, each time BUSY.
        PromisedSlots x = Check.laid("o001;d080;d011;");
        x.seed(6388);
        x.load(0, 0, 1);
        x.load(1, 0, 1);
        check.due("run", x.run(1), 1);
        deviceIs(x, 0, 0, 1, 0, 0, 0, 0, 0, 0);
        deviceIs(x, 1, 0, 0, 1, 0, 5, 5, 0, 0);
        check.due("seed", x.count(8), 1280);
        for (int t = 1; t < 48; t++) {
            check.due("air at " + t, x.air(0, t), t >= 3 && t <= 10 ? 10 : 0);
        }
        x.load(1, 0, 1);
        check.due("the next frame begins anew", x.run(1), 1);
        deviceIs(x, 1, 0, 1, 1, 0, 1, 0, 0, 0);
    }

    private static void exponentHasATop() {
        check.part("exponents");
        // Looks at 2, 3 (EXPONENT 4, draws 0), 4 (5, 0), 5 (5, 0), 6 (5, 43552 % 32 is 0), 7: given up.
        PromisedSlots x = Check.laid("o001;d080;d013;");
        x.seed(53809);
        x.load(0, 0, 1);
        x.load(1, 0, 1);
        check.due("run", x.run(1), 1);
        deviceIs(x, 1, 0, 0, 1, 0, 5, 5, 0, 0);
        check.due("seed", x.count(8), 43552);
    }

    private static void heldAsItDoesNotFit() {
        check.part("held");
        // K is 12. Device 1 looks at 2, 3 (draws 3), 7 (draws 2); at 10 its frame fits no more.
        PromisedSlots x = Check.laid("o001;d080;d011;d010;");
        x.ask(2, 12);
        x.seed(27);
        x.load(0, 0, 1);
        x.load(1, 0, 1);
        check.due("run", x.run(1), 1);
        deviceIs(x, 1, 1, 0, 0, 3, 3, 2, 0, 0);
        check.due("seed", x.count(8), 39306);
        check.due("run", x.run(1), 1);
        airIs(x, new int[][] {{4, 11}});
        deviceIs(x, 1, 0, 1, 0, 0, 3, 2, 0, 0);
        check.due("seed", x.count(8), 51809);
    }

    private static void heldAsItStillWaits() {
        check.part("held while it waits");
        // As above, but it draws 7 at 7 and still waits at 11.
        PromisedSlots x = Check.laid("o001;d080;d011;d010;");
        x.ask(2, 12);
        x.seed(110);
        x.load(0, 0, 1);
        x.load(1, 0, 1);
        check.due("run", x.run(1), 1);
        deviceIs(x, 1, 1, 0, 0, 3, 3, 2, 0, 0);
        check.due("seed", x.count(8), 32239);
        check.due("run", x.run(1), 1);
        airIs(x, new int[][] {{5, 11}});
        check.due("seed", x.count(8), 43170);
    }

    private static void heldFromTheFirstDrawOn() {
        check.part("held from the first draw on");
        // K is 6. 28183 % 8 is 7, it still waits at 5; 28996 % 8 is 4, at 5 its frame fits no more.
        PromisedSlots x = Check.laid("o001;d013;d010;");
        x.ask(1, 14);
        x.seed(2);
        x.load(0, 0, 1);
        check.due("run", x.run(1), 0);
        deviceIs(x, 0, 1, 0, 0, 3, 3, 0, 0, 0);
        check.due("seed", x.count(8), 28183);
        check.due("run", x.run(1), 0);
        deviceIs(x, 0, 1, 0, 0, 3, 3, 0, 0, 0);
        check.due("seed", x.count(8), 28996);
    }

    private static void orderOfDraws() {
        check.part("order of draws");
        // At 3 device 2 draws in (d), then 0 and 1 in (f); at 9 all three are hurt; 0 and 1 give up at 12.
        PromisedSlots x = Check.laid("o001;d010;d010;d011;");
        x.seed(3);
        for (int d = 0; d < 3; d++) {
            x.load(d, 0, 1);
        }
        check.due("run", x.run(1), 1);
        airIs(x, new int[][] {{3, 2}, {6, 2}, {9, 2}, {12, 2}, {16, 12}});
        deviceIs(x, 0, 0, 0, 1, 0, 0, 0, 0, 4);
        deviceIs(x, 1, 0, 0, 1, 0, 0, 0, 0, 4);
        deviceIs(x, 2, 0, 1, 0, 0, 2, 1, 0, 1);
        check.due("seed", x.count(8), 1873);
    }

    private static void theEdgeOfFitting() {
        check.part("what fits");
        for (int length = 1; length <= 8; length++) {
            // K is 6 with 14 slots promised: a frame of 3 that is begun at 1 is the longest one.
            PromisedSlots x = Check.laid("o001;d0" + length + "0;d010;");
            x.ask(1, 14);
            x.load(0, 0, 1);
            check.due("length " + length, x.run(1), length <= 3 ? 1 : 0);
            check.due("it is held", x.device(0, 9), length <= 3 ? 0 : 3);
            check.due("its draw", x.count(8), 20264);
            check.due("again", x.run(1), 0);
            check.due("held draws once a part", x.count(8), length <= 3 ? 20264 : 22032);
        }
    }

    private static void lengthsThatDiffer() {
        check.part("lengths");
        // Both send at 3. Device 1 looks at 4 (draws 0), 5 (draws 1), 7 and 8 (draws 2), 11 and 12; device 0 at 6 and 7.
        PromisedSlots x = Check.laid("o001;d030;d010;");
        x.load(0, 0, 1);
        x.load(1, 0, 1);
        x.seed(327);
        check.due("run", x.run(1), 2);
        airIs(x, new int[][] {{3, 2}, {4, 10}, {5, 10}, {8, 10}, {9, 10}, {10, 10}, {13, 11}});
        deviceIs(x, 0, 0, 1, 0, 0, 0, 0, 0, 1);
        deviceIs(x, 1, 0, 1, 0, 0, 3, 3, 0, 1);
        check.due("seed", x.count(8), 64730);
    }

    private static void onlyWhoHeard() {
        check.part("who takes part");
        PromisedSlots x = new PromisedSlots();
        x.load(0, 0, 1);
        x.load(3, 0, 2);
        x.load(5, 0, 4);
        check.due("at 0", x.run(1), 1);
        check.due("at 1", x.run(1), 2);
        check.due("at 2", x.run(1), 4);
        x.load(0, 0, 1);
        x.load(1, 0, 1);
        x.deafen(0, 1);
        check.due("one is deaf", x.run(1), 1);
        check.due("its frame stays", x.device(0, 3), 1);
        check.due("it rests", x.device(0, 9), 0);
    }

    private static void beaconsInOrder() {
        check.part("order of beacons");
        PromisedSlots x = Check.laid("o401;d010;c00500;c00100;c00300;");
        int[] order = {0, 2, 3, 1, 0, 2, 3, 1};
        int[] start = {0, 100, 300, 500, 768, 868, 1068, 1268};
        int[] parts = new int[4];
        for (int i = 0; i < order.length; i++) {
            check.due("next beacon", x.coordinator(order[i], 4), start[i]);
            x.run(1);
            parts[order[i]]++;
            for (int c = 0; c < 4; c++) {
                check.due("parts of " + c, x.coordinator(c, 5), parts[c]);
            }
            check.due("now", x.count(2), start[i] + 48);
            check.due("a beat later", x.coordinator(order[i], 4), start[i] + 768);
            check.due("parts", x.count(12), i + 1);
        }
    }

    private static void promisedAndContended() {
        check.part("both kinds");
        PromisedSlots x = Check.laid("o001;d020;d010;");
        x.ask(1, 2);
        x.load(1, 1, 2);
        x.load(0, 0, 1);
        check.due("sent", x.run(1), 3);
        airIs(x, new int[][] {{3, 10}, {4, 10}, {42, 11}, {43, 11}});
        check.due("device 1", x.device(1, 5), 2);
        check.due("does not contend", x.device(1, 9), 0);
        x.load(1, 1, 1);
        x.load(1, 0, 1);
        check.due("a device sends both", x.run(1), 2);
        check.due("device 1", x.device(1, 5), 4);
        airIs(x, new int[][] {{3, 11}, {42, 11}});
    }
}
