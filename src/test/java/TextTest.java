/** Promises 1 to 6: a new object, write, wipe, fault, lay, cause. */
public final class TextTest {
    private static final Check check = new Check("TextTest");

    public static void main(String[] args) {
        newObject();
        write();
        wipe();
        faultless();
        faultsOfLetters();
        faultsOfFigures();
        faultsOfNumbers();
        faultsOfClashes();
        faultPlaces();
        layRefused();
        layTaken();
        layBeginsAnew();
        causes();
        check.end();
    }

    private static void newObject() {
        check.part("promise 1");
        PromisedSlots x = new PromisedSlots();
        int[] counts = {3, 6, 0, 768, 96, 6, 8, 3, 1, 0, 0, 0, 0};
        for (int what = 0; what < counts.length; what++) {
            check.due("count " + what, x.count(what), counts[what]);
        }
        int[][] coordinators = {{0, -4, 16, 7, 0, 0}, {192, 0, 16, 24, 192, 0}, {400, 0, 16, 32, 400, 0}};
        for (int c = 0; c < 3; c++) {
            for (int what = 0; what < 6; what++) {
                check.due("coordinator " + c + " " + what, x.coordinator(c, what), coordinators[c][what]);
            }
            check.due("promises " + c, x.promise(c, -1, 0), 0);
            check.due("air " + c, x.air(c, 0), PromisedSlots.NONE);
        }
        int[][] devices = {{0, 2, 3}, {0, 1, 2}, {0, 3, 1}, {1, 2, 3}, {1, 1, 2}, {2, 2, 1}};
        for (int d = 0; d < 6; d++) {
            for (int what = 0; what < 14; what++) {
                int want = what < 3 ? devices[d][what] : what == 10 ? devices[d][2] : 0;
                check.due("device " + d + " " + what, x.device(d, what), want);
            }
        }
        check.due("cause", x.cause(0), PromisedSlots.NONE);
    }

    private static void write() {
        check.part("promise 2");
        PromisedSlots x = new PromisedSlots();
        check.due("31", x.write(31), PromisedSlots.BAD);
        check.due("127", x.write(127), PromisedSlots.BAD);
        check.due("lowest", x.write(Integer.MIN_VALUE), PromisedSlots.BAD);
        check.due("highest", x.write(Integer.MAX_VALUE), PromisedSlots.BAD);
        check.due("letters", x.count(10), 0);
        check.due("32", x.write(32), 1);
        check.due("126", x.write(126), 2);
        for (int i = 3; i <= 200; i++) {
            check.due("letter " + i, x.write('o'), i);
        }
        check.due("letter 201", x.write('o'), PromisedSlots.FULL);
        check.due("bad ahead of full", x.write(10), PromisedSlots.BAD);
        check.due("letters", x.count(10), 200);
        check.due("fault", x.fault(), 0);
    }

    private static void wipe() {
        check.part("promise 3");
        PromisedSlots x = new PromisedSlots();
        check.due("of none", x.wipe(), 0);
        Check.write(x, "o418;x");
        check.due("of some", x.wipe(), 6);
        check.due("again", x.wipe(), 0);
        check.due("letters", x.count(10), 0);
        check.due("fault", x.fault(), PromisedSlots.NONE);
        check.due("first letter again", x.write('o'), 1);
        check.due("devices stay", x.count(1), 6);
    }

    private static void faultless() {
        check.part("promise 4");
        String[] texts = {"", "o001;", "o539;", "o418;d023;d012;d031;c00192;d123;d112;c00400;d221;l3;", "o221;l1;l9;",
            "o531;c00384;c10384;c20384;d383;d010;", "o101;c00048;", "o001;d010;d010;d010;d010;d010;d010;d010;d010;",
            "o201;c00096;c10048;c20096;", "o301;c00336;", "o301;c00288;c10048;"};
        for (String text : texts) {
            PromisedSlots x = new PromisedSlots();
            x.nest(9, 9);
            Check.write(x, text);
            check.due("fault of " + text, x.fault(), PromisedSlots.NONE);
            check.due("no causes of " + text, x.count(9), 0);
        }
    }

    /** The fault of a text is at a place, for a reason, with a coordinator that is met (or NONE). */
    private static void faulty(String text, int place, int why, int met) {
        PromisedSlots x = new PromisedSlots();
        Check.write(x, text);
        check.due("fault of " + text, x.fault(), place);
        causesAre(x, text, why, met);
        x.nest(0, 300);
        check.due("lay of " + text, x.lay(), PromisedSlots.NO);
        causesAre(x, text, why, met);
        check.due("devices stay", x.count(1), 6);
    }

    private static void causesAre(PromisedSlots x, String text, int why, int met) {
        check.due("outermost of " + text, x.cause(0), 1);
        check.due("why of " + text, x.cause(1), why);
        check.due("met of " + text, x.cause(2), met == PromisedSlots.NONE ? met : 20 + met);
        check.due("no more of " + text, x.cause(3), PromisedSlots.NONE);
        check.due("causes of " + text, x.count(9), met == PromisedSlots.NONE ? 2 : 3);
    }

    private static void faultsOfLetters() {
        check.part("promise 4, letters");
        int none = PromisedSlots.NONE;
        for (String first : new String[] {"x", " ", "O418;", "d010;", "c00096;", "l3;", ";", "0", "l", "d"}) {
            faulty(first, 0, 10, none);
        }
        faulty("o418;x", 5, 10, none);
        faulty("o418;;", 5, 10, none);
        faulty("o418; ", 5, 10, none);
        faulty("o418;o418;", 5, 10, none);
        faulty("o418;d010;o", 10, 10, none);
        faulty("o531;c00384;c10384;c20384;c", 26, 10, none);
        faulty("o531;c00384;c10384;c20384;cxxxxx", 26, 10, none);
        faulty("o001;d010;d010;d010;d010;d010;d010;d010;d010;d", 45, 10, none);
        faulty("o001;d010;d010;d010;d010;d010;d010;d010;d010;d010;", 45, 10, none);
    }

    private static void faultsOfFigures() {
        check.part("promise 4, figures");
        int none = PromisedSlots.NONE;
        for (String text : new String[] {"o", "ox", "o4", "o4;", "o41", "o41x", "o418", "o4180;", "o418 ", "o418x;", "o/18;", "o:18;"}) {
            faulty(text, 0, 11, none);
        }
        for (String item : new String[] {"c", "c;", "c0", "c00", "c001", "c0019", "c00192", "c0192;", "c00192 ", "c001920;", "c0x192;",
            "d", "dx", "d0", "d0;", "d02", "d02;", "d023", "d0233;", "d023d", "l", "l;", "l3", "l33;", "l3l"}) {
            faulty("o418;" + item, 5, 11, none);
        }
    }

    private static void faultsOfNumbers() {
        check.part("promise 4, numbers");
        int none = PromisedSlots.NONE;
        for (String text : new String[] {"o6", "o9", "o54", "o54;", "o23", "o01", "o12x", "o310", "o310;", "o6x"}) {
            faulty(text, 0, 12, none);
        }
        for (String item : new String[] {"c1", "c9", "c1x", "c00768", "c00768;", "c09999x", "d1", "d1x", "d00", "d09", "d00x", "d014", "d019;", "l0", "l0;", "l0x"}) {
            faulty("o418;" + item, 5, 12, none);
        }
        faulty("o418;c00192;d2", 12, 12, none);
        faulty("o418;c00192;c2", 12, 12, none);
        faulty("o418;d123;c00192;", 5, 12, none);
        faulty("o001;c00048;", 5, 12, none);
    }

    private static void faultsOfClashes() {
        check.part("promise 4, clashes");
        faulty("o418;c00000", 5, 13, 0);
        faulty("o418;c00000;", 5, 13, 0);
        faulty("o418;c00095x", 5, 13, 0);
        faulty("o418;c00673;", 5, 13, 0);
        faulty("o418;c00767;", 5, 13, 0);
        faulty("o418;c00096;c10095;", 12, 13, 1);
        faulty("o418;c00200;c00105;", 12, 13, 1);
        faulty("o418;c00200;c00295;", 12, 13, 1);
        faulty("o418;c00200;c10568;", 12, 13, 0);
        faulty("o418;c00096;c00200;c00150;", 19, 13, 1);
        faulty("o418;c00200;c00096;c00150;", 19, 13, 1);
        faulty("o418;c00300;c00100;c00150;", 19, 13, 2);
        faulty("o001;c00000;", 5, 13, 0);
        faulty("o001;c00047;", 5, 13, 0);
    }

    private static void faultPlaces() {
        check.part("promise 4, the first fault");
        faulty("o418;d023;l3;d094;x", 13, 12, PromisedSlots.NONE);
        faulty("o418;c00192;d023;c10400;c1", 24, 11, PromisedSlots.NONE);
        PromisedSlots x = new PromisedSlots();
        Check.write(x, "o418;d02");
        check.due("while it is written", x.fault(), 5);
        Check.write(x, "3;");
        check.due("when it is whole", x.fault(), PromisedSlots.NONE);
        check.due("causes are gone", x.count(9), 0);
    }

    private static void layRefused() {
        check.part("promise 5, refused");
        for (String text : new String[] {"", "o418;", "o418;c00192;l2;"}) {
            PromisedSlots x = new PromisedSlots();
            x.load(0, 0, 5);
            Check.write(x, text);
            check.due("lay of " + text, x.lay(), PromisedSlots.NO);
            check.due("cause", x.cause(0), 2);
            check.due("no more causes", x.cause(1), PromisedSlots.NONE);
            check.due("causes", x.count(9), 1);
            check.due("devices stay", x.count(1), 6);
            check.due("frames stay", x.device(0, 3), 5);
            check.due("life stays", x.count(7), 3);
            check.due("coordinators stay", x.count(0), 3);
            check.due("letters stay", x.count(10), text.length());
        }
    }

    private static void layTaken() {
        check.part("promise 5");
        PromisedSlots x = Check.laid("o525;l7;d083;c01000;d142;l2;c10200;");
        int[] counts = {3, 2, 0, 1536, 192, 12, 5, 2, 1, 0, 35, 0, 0};
        for (int what = 0; what < counts.length; what++) {
            check.due("count " + what, x.count(what), counts[what]);
        }
        int[][] coordinators = {{0, -4, 16, 1, 0, 0}, {1000, 0, 16, 2, 1000, 0}, {1200, 1, 16, 0, 1200, 0}};
        for (int c = 0; c < 3; c++) {
            for (int what = 0; what < 6; what++) {
                check.due("coordinator " + c + " " + what, x.coordinator(c, what), coordinators[c][what]);
            }
        }
        int[][] devices = {{0, 8, 3}, {1, 4, 2}};
        for (int d = 0; d < 2; d++) {
            for (int what = 0; what < 3; what++) {
                check.due("device " + d + " " + what, x.device(d, what), devices[d][what]);
            }
        }
        check.due("no third device", x.device(2, 0), PromisedSlots.BAD);
        check.due("life without", Check.laid("o001;d010;").count(7), 4);
        check.due("modulo a beat", Check.laid("o301;c00300;c10180;d010;").coordinator(2, 0), 96);
    }

    private static void layBeginsAnew() {
        check.part("promise 5, all as at first");
        // K is 9: devices 0 and 1 are hurt and held, 2 waits for a long air, 3 holds a promise, 4 is deaf.
        String text = "o203;d010;d010;d081;d010;d010;d010;c00048;l9;";
        PromisedSlots x = Check.laid(text);
        unsettle(x);
        check.due("tries", x.device(0, 12), 2);
        check.due("held", x.device(0, 9), 3);
        check.due("lay", x.lay(), 6);
        sameState(x, Check.laid(text));
        check.due("no air", x.air(0, 0), PromisedSlots.NONE);
        PromisedSlots fresh = Check.laid(text);
        unsettle(x);
        unsettle(fresh);
        sameState(x, fresh);
        x.lay();
        check.due("nested again", x.nest(0, 96), 2);
        check.due("its list", x.coordinator(2, 3), 0);
        givenUpIsForgotten();
    }

    private static void unsettle(PromisedSlots x) {
        x.seed(77);
        x.nest(0, 96);
        x.ask(3, 13);
        x.load(3, 1, 90);
        x.load(0, 0, 9);
        x.load(1, 0, 9);
        x.load(2, 0, 9);
        x.load(2, 1, 9);
        x.deafen(4, 9);
        x.run(3);
        x.join(5, 2);
        x.drop(1);
        x.nest(9, 9);
    }

    /** Device 1 looks at a busy air five times (RunTest tells how): looks, exponent and what was given up begin anew too. */
    private static void givenUpIsForgotten() {
        PromisedSlots x = Check.laid("o001;d080;d011;");
        x.seed(6388);
        x.load(0, 0, 1);
        x.load(1, 0, 1);
        x.run(1);
        check.due("given up", x.device(1, 6), 1);
        check.due("looks", x.device(1, 11), 5);
        check.due("lay", x.lay(), 2);
        sameState(x, Check.laid("o001;d080;d011;"));
    }

    private static void sameState(PromisedSlots x, PromisedSlots y) {
        for (int what = -1; what < 15; what++) {
            check.due("count " + what, x.count(what), y.count(what));
            for (int i = 0; i < 8; i++) {
                check.due("device " + i + " " + what, x.device(i, what), y.device(i, what));
                check.due("coordinator " + i + " " + what, x.coordinator(i, what), y.coordinator(i, what));
                check.due("air " + i, x.air(i, what), y.air(i, what));
                check.due("promises " + i, x.promise(i, what, 0), y.promise(i, what, 0));
            }
        }
    }

    private static void causes() {
        check.part("promise 6");
        PromisedSlots x = new PromisedSlots();
        check.due("none at first", x.cause(0), PromisedSlots.NONE);
        check.due("below 0", x.cause(-1), PromisedSlots.BAD);
        check.due("lowest", x.cause(Integer.MIN_VALUE), PromisedSlots.BAD);
        check.due("highest", x.cause(Integer.MAX_VALUE), PromisedSlots.NONE);
        x.nest(0, 10);
        check.due("of nest", x.cause(0), 13);
        check.due("which", x.cause(1), 20);
        check.due("no more", x.cause(2), PromisedSlots.NONE);
        check.due("below 0 again", x.cause(-1), PromisedSlots.BAD);
        keepsCauses(x);
        check.due("of ask", x.ask(0, 16), PromisedSlots.BAD);
        check.due("the latest", x.cause(0), 18);
        check.due("only that", x.cause(1), PromisedSlots.NONE);
        check.due("a good ask", x.ask(0, 1), 15);
        check.due("none again by ask", x.count(9), 0);
        x.ask(0, 1);
        check.due("a good nest", x.nest(0, 550), 3);
        check.due("none again by nest", x.count(9), 0);
        x.ask(0, 1);
        check.due("a good fault", x.fault(), PromisedSlots.NONE);
        check.due("none again by fault", x.count(9), 0);
        x.ask(0, 1);
        Check.write(x, "o001;d010;");
        check.due("a good lay", x.lay(), 1);
        check.due("none again by lay", x.count(9), 0);
    }

    /** What other calls refuse leaves the causes as they are, as do other calls that are not refused. */
    private static void keepsCauses(PromisedSlots x) {
        x.write(0);
        x.wipe();
        x.seed(-1);
        x.seed(1);
        x.join(9, 9);
        x.join(0, 0);
        x.drop(-1);
        x.load(0, 2, 2);
        x.load(0, 0, 0);
        x.deafen(0, 10);
        x.scan(0);
        x.release(0);
        x.promise(0, 5, 0);
        x.run(0);
        x.run(1);
        x.air(1, 0);
        x.coordinator(4, 0);
        x.device(8, 0);
        x.count(13);
        check.due("kept", x.cause(0), 13);
        check.due("kept which", x.cause(1), 20);
    }
}
