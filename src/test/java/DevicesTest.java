/** Promises 7 to 13: nest, seed, join, drop, load, deafen, scan. */
public final class DevicesTest {
    private static final Check check = new Check("DevicesTest");
    private static final int LOW = Integer.MIN_VALUE, HIGH = Integer.MAX_VALUE;

    public static void main(String[] args) {
        nest();
        nestRefused();
        nestBeacons();
        seed();
        join();
        joinPromises();
        joinStaysInContending();
        drop();
        load();
        deafen();
        scan();
        check.end();
    }

    private static void nest() {
        check.part("promise 7");
        PromisedSlots x = Check.laid("o501;d010;");
        check.due("right behind the root", x.nest(0, 48), 1);
        check.due("its start", x.coordinator(1, 0), 48);
        check.due("its parent", x.coordinator(1, 1), 0);
        check.due("its list", x.coordinator(1, 3), 0);
        check.due("its promises", x.promise(1, -1, 0), 0);
        check.due("its shared slots", x.coordinator(1, 2), 16);
        check.due("right ahead of the root", x.nest(1, 1440), 2);
        check.due("its start", x.coordinator(2, 0), 1488);
        check.due("its parent", x.coordinator(2, 1), 1);
        check.due("over the end of a beat", x.nest(2, 148), 3);
        check.due("its start", x.coordinator(3, 0), 100);
        check.due("coordinators", x.count(0), 4);
        check.due("no causes", x.count(9), 0);
    }

    private static void nestRefused() {
        check.part("promise 7, refused");
        PromisedSlots x = new PromisedSlots();
        for (int parent : new int[] {-1, 3, LOW, HIGH}) {
            refused(x, parent, 600, PromisedSlots.BAD, 18, PromisedSlots.NONE);
        }
        for (int offset : new int[] {-1, 768, LOW, HIGH}) {
            refused(x, 0, offset, PromisedSlots.BAD, 18, PromisedSlots.NONE);
        }
        refused(x, 0, 0, PromisedSlots.NO, 13, 20);
        refused(x, 0, 95, PromisedSlots.NO, 13, 20);
        refused(x, 0, 673, PromisedSlots.NO, 13, 20);
        refused(x, 0, 767, PromisedSlots.NO, 13, 20);
        refused(x, 1, 0, PromisedSlots.NO, 13, 21);
        refused(x, 0, 97, PromisedSlots.NO, 13, 21);
        refused(x, 0, 287, PromisedSlots.NO, 13, 21);
        refused(x, 2, 95, PromisedSlots.NO, 13, 22);
        refused(x, 2, 368, PromisedSlots.NO, 13, 20);
        refused(x, 0, 305, PromisedSlots.NO, 13, 22);
        check.due("coordinators stay", x.count(0), 3);
        check.due("right behind 1, right ahead of 2", x.nest(0, 304), 3);
        refused(x, 0, 600, PromisedSlots.FULL, 14, PromisedSlots.NONE);
        refused(x, 0, 0, PromisedSlots.FULL, 14, PromisedSlots.NONE);
        refused(x, 4, 0, PromisedSlots.BAD, 18, PromisedSlots.NONE);
        refused(x, 0, 768, PromisedSlots.BAD, 18, PromisedSlots.NONE);
        check.due("coordinators stay", x.count(0), 4);
        PromisedSlots y = Check.laid("o418;d010;c00300;c00100;");
        refused(y, 0, 205, PromisedSlots.NO, 13, 21);
        refused(y, 0, 195, PromisedSlots.NO, 13, 22);
        refused(y, 0, 150, PromisedSlots.NO, 13, 22);
    }

    private static void refused(PromisedSlots x, int parent, int offset, int want, int why, int which) {
        String call = "nest " + parent + " " + offset;
        check.due(call, x.nest(parent, offset), want);
        check.due(call + " cause 0", x.cause(0), why);
        check.due(call + " cause 1", x.cause(1), which);
        check.due(call + " cause 2", x.cause(2), PromisedSlots.NONE);
    }

    private static void nestBeacons() {
        check.part("promise 7, beacons");
        PromisedSlots x = Check.laid("o201;d010;");
        check.due("first run", x.run(1), 0);
        check.due("now", x.count(2), 48);
        check.due("nested at now", x.nest(0, 48), 1);
        check.due("its beacon is now", x.coordinator(1, 4), 48);
        check.due("one more", x.nest(0, 96), 2);
        check.due("its beacon", x.coordinator(2, 4), 96);
        x.run(2);
        check.due("now", x.count(2), 144);
        PromisedSlots y = Check.laid("o201;d010;");
        y.run(2);
        check.due("now", y.count(2), 240);
        check.due("nested", y.nest(0, 48), 1);
        check.due("its beacon, at now", y.coordinator(1, 4), 240);
        PromisedSlots z = Check.laid("o201;d010;c00144;");
        z.run(4);
        check.due("now", z.count(2), 384);
        check.due("nested", z.nest(0, 48), 2);
        check.due("its beacon, a beat later than the last such tick", z.coordinator(2, 4), 384 + 48);
        check.due("the root's next", z.coordinator(0, 4), 384);
        z.run(3);
        check.due("it had one", z.coordinator(2, 5), 1);
        check.due("now", z.count(2), 384 + 192);
    }

    private static void seed() {
        check.part("promise 8");
        PromisedSlots x = new PromisedSlots();
        check.due("first", x.seed(0), 1);
        check.due("told", x.count(8), 0);
        check.due("highest", x.seed(65520), 0);
        for (int z : new int[] {65521, -1, LOW, HIGH}) {
            check.due("bad " + z, x.seed(z), PromisedSlots.BAD);
        }
        check.due("stays", x.count(8), 65520);
        x.load(0, 0, 1);
        x.run(1);
        // 7919 * 65520 + 12345 = 518865225 = 7919 * 65521 + 4426
        check.due("the next draw", x.count(8), 4426);
    }

    private static void join() {
        check.part("promise 9");
        PromisedSlots x = new PromisedSlots();
        for (int n : new int[] {-1, 6, LOW, HIGH}) {
            check.due("bad device " + n, x.join(n, 1), PromisedSlots.BAD);
        }
        for (int n : new int[] {-1, 3, LOW, HIGH}) {
            check.due("bad coordinator " + n, x.join(0, n), PromisedSlots.BAD);
        }
        check.due("is there", x.join(0, 0), PromisedSlots.NO);
        check.due("moves", x.join(0, 2), 0);
        check.due("homed", x.device(0, 0), 2);
        check.due("off its list", x.coordinator(0, 3), 6);
        check.due("on its list", x.coordinator(2, 3), 33);
        check.due("is there", x.join(0, 2), PromisedSlots.NO);
        x.drop(0);
        check.due("homed, but on no list", x.join(0, 2), 2);
        check.due("on its list again", x.coordinator(2, 3), 33);
        x.deafen(3, 4);
        x.run(7);
        check.due("missed", x.device(3, 7), 2);
        check.due("moves", x.join(3, 0), 1);
        check.due("missed none", x.device(3, 7), 0);
        check.due("still deaf", x.device(3, 8), 2);
        x.deafen(4, 9);
        x.run(13);
        check.due("an orphan", x.device(4, 0), PromisedSlots.NONE);
        check.due("missed", x.device(4, 7), 4);
        check.due("an orphan joins where it is listed", x.join(4, 1), PromisedSlots.NONE);
        check.due("homed", x.device(4, 0), 1);
        check.due("missed none", x.device(4, 7), 0);
        check.due("no orphans", x.count(11), 0);
    }

    private static void joinPromises() {
        check.part("promise 9, promises");
        PromisedSlots x = new PromisedSlots();
        x.ask(0, 1);
        x.ask(1, 2);
        x.ask(2, 3);
        x.join(1, 1);
        check.due("its promise goes", x.promise(0, -1, 0), 2);
        check.due("the first stays", x.promise(0, 0, 0), 0);
        check.due("the last comes up", x.promise(0, 1, 0), 2);
        check.due("its first slot", x.promise(0, 1, 1), 12);
        check.due("none of the new home", x.promise(1, -1, 0), 0);
        check.due("it may ask anew", x.ask(1, 2), 14);
        check.due("it has one now", x.ask(1, 2), PromisedSlots.NO);
        PromisedSlots y = Check.laid("o001;d010;l9;");
        y.ask(0, 2);
        y.deafen(0, 4);
        y.run(4);
        check.due("an orphan", y.device(0, 0), PromisedSlots.NONE);
        check.due("joins where its promise is", y.join(0, 0), PromisedSlots.NONE);
        check.due("its promise stays", y.promise(0, 0, 0), 0);
        check.due("idle as it was", y.promise(0, 0, 3), 4);
    }

    private static void joinStaysInContending() {
        check.part("promise 9, contending");
        // K is 3 with 15 slots promised: no frame fits, so that its sender is held.
        PromisedSlots x = Check.laid("o101;d010;d012;c00048;");
        x.ask(0, 15);
        x.load(1, 0, 2);
        x.run(2);
        check.due("held", x.device(1, 9), 3);
        check.due("moves", x.join(1, 1), 0);
        check.due("still held", x.device(1, 9), 3);
        check.due("its exponent", x.device(1, 10), 2);
        check.due("its frames", x.device(1, 3), 2);
        x.run(2);
        check.due("sent there", x.device(1, 5), 2);
    }

    private static void drop() {
        check.part("promise 10");
        PromisedSlots x = new PromisedSlots();
        for (int n : new int[] {-1, 6, LOW, HIGH}) {
            check.due("bad " + n, x.drop(n), PromisedSlots.BAD);
        }
        x.ask(0, 1);
        x.ask(1, 2);
        check.due("drop", x.drop(0), 1);
        check.due("again", x.drop(0), 0);
        check.due("its list", x.coordinator(0, 3), 6);
        check.due("its promise is gone", x.promise(0, -1, 0), 1);
        check.due("the other comes up", x.promise(0, 0, 1), 14);
        check.due("still homed", x.device(0, 0), 0);
        x.load(0, 0, 1);
        check.due("still hears and sends", x.run(1), 1);
        check.due("may not ask", x.ask(0, 1), PromisedSlots.NO);
        check.due("other lists stay", x.coordinator(1, 3), 24);
        check.due("of another", x.drop(5), 1);
        check.due("its list", x.coordinator(2, 3), 0);
    }

    private static void load() {
        check.part("promise 11");
        PromisedSlots x = new PromisedSlots();
        for (int n : new int[] {-1, 6, LOW, HIGH}) {
            check.due("bad device " + n, x.load(n, 0, 1), PromisedSlots.BAD);
        }
        for (int kind : new int[] {-1, 2, LOW, HIGH}) {
            check.due("bad kind " + kind, x.load(0, kind, 1), PromisedSlots.BAD);
        }
        for (int kind = 0; kind < 2; kind++) {
            for (int many : new int[] {-1, 100, LOW, HIGH}) {
                check.due("bad many " + many, x.load(0, kind, many), PromisedSlots.BAD);
            }
            check.due("none", x.load(0, kind, 0), 0);
            check.due("some", x.load(0, kind, 40), 40);
            check.due("one too many", x.load(0, kind, 60), PromisedSlots.FULL);
            check.due("bad ahead of full", x.load(0, kind, 100), PromisedSlots.BAD);
            check.due("stays", x.device(0, 3 + kind), 40);
            check.due("all", x.load(0, kind, 59), 99);
            check.due("none more", x.load(0, kind, 0), 99);
            check.due("one more", x.load(0, kind, 1), PromisedSlots.FULL);
            check.due("another", x.load(1, kind, 99), 99);
        }
        check.due("to contend", x.device(0, 3), 99);
        check.due("to be promised", x.device(0, 4), 99);
    }

    private static void deafen() {
        check.part("promise 12");
        PromisedSlots x = new PromisedSlots();
        for (int n : new int[] {-1, 6, LOW, HIGH}) {
            check.due("bad device " + n, x.deafen(n, 1), PromisedSlots.BAD);
        }
        for (int n : new int[] {-1, 10, LOW, HIGH}) {
            check.due("bad number " + n, x.deafen(0, n), PromisedSlots.BAD);
        }
        check.due("first", x.deafen(0, 9), 0);
        check.due("less", x.deafen(0, 2), 9);
        check.due("told", x.device(0, 8), 2);
        x.load(0, 0, 2);
        check.due("deaf, it does not send", x.run(1), 0);
        check.due("to one less", x.device(0, 8), 1);
        check.due("missed", x.device(0, 7), 1);
        x.run(2);
        check.due("other beacons do not count", x.device(0, 8), 1);
        check.due("nor are they missed", x.device(0, 7), 1);
        x.run(1);
        check.due("to none", x.device(0, 8), 0);
        check.due("missed", x.device(0, 7), 2);
        check.due("hears again", x.run(3), 2);
        check.due("missed none", x.device(0, 7), 0);
        check.due("still homed", x.device(0, 0), 0);
        x.deafen(0, 3);
        x.run(9);
        check.due("missed three", x.device(0, 7), 3);
        check.due("still homed", x.device(0, 0), 0);
        check.due("not deaf any more", x.deafen(0, 0), 0);
        x.deafen(1, 1);
        check.due("taken back", x.deafen(1, 0), 1);
        x.load(1, 0, 1);
        check.due("so it hears", x.run(3), 1);
    }

    private static void scan() {
        check.part("promise 13");
        PromisedSlots x = new PromisedSlots();
        for (int n : new int[] {-1, 6, LOW, HIGH}) {
            check.due("bad " + n, x.scan(n), PromisedSlots.BAD);
        }
        check.due("no orphan", x.scan(5), PromisedSlots.NO);
        x.deafen(5, 5);
        x.deafen(3, 4);
        x.run(12);
        check.due("orphans", x.count(11), 2);
        check.due("missed", x.device(5, 7), 4);
        check.due("deaf", x.device(5, 8), 1);
        check.due("on its list", x.coordinator(2, 3), 32);
        x.run(3);
        check.due("an orphan misses no more", x.device(5, 7), 4);
        check.due("an orphan's deafness stays", x.device(5, 8), 1);
        check.due("comes home", x.scan(5), 2);
        check.due("homed", x.device(5, 0), 2);
        check.due("missed none", x.device(5, 7), 0);
        check.due("deaf as it was", x.device(5, 8), 1);
        check.due("no orphan", x.scan(5), PromisedSlots.NO);
        x.drop(3);
        check.due("none answers", x.scan(3), PromisedSlots.NONE);
        check.due("still an orphan", x.device(3, 0), PromisedSlots.NONE);
        check.due("missed as it was", x.device(3, 7), 4);
        check.due("orphans", x.count(11), 1);
        x.join(3, 0);
        x.deafen(3, 4);
        x.run(12);
        check.due("answered by its new one", x.scan(3), 0);
    }
}
