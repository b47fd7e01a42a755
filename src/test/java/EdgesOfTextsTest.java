import java.util.ArrayList;
import java.util.Collections;
import java.util.List;

/** The edges of promises 1 to 6, and of what the document says of texts, faults and causes. */
public final class EdgesOfTextsTest {
    private static final Edges edges = new Edges("EdgesOfTextsTest");
    private static final int[] BEATS = {48, 96, 192, 384, 768, 1536};
    private static final int[] ACTIVES = {48, 96, 192, 384};
    private static final String FOUR = "o501;c00048;c10048;c20048;";
    private static final String EIGHT = "o001;d010;d010;d010;d010;d010;d010;d010;d010;";

    public static void main(String[] args) {
        newObject();
        letters();
        mostLetters();
        wipes();
        cutItems();
        signsInItems();
        orders();
        ordersAheadOfAll();
        lettersThatBeginNoItem();
        parents();
        offsets();
        homes();
        lengthsAndExponents();
        lives();
        mostCoordinators();
        mostDevices();
        placesOfFaults();
        whatIsMetFirst();
        ticksInCommon();
        aDeviceAtLeast();
        allAsAtFirst();
        causesCome();
        causesGo();
        noSuchCause();
        edges.end();
    }

    private static void fault(String words, String text, int place, String causes) {
        String[] start = text.isEmpty() ? new String[0] : new String[] {"text " + text};
        List<String> run = new ArrayList<>(List.of(start));
        run.add("fault ! " + place + " 1 " + causes);
        run.add("lay ! NO 1 " + causes);
        edges.sentence(words + " [" + text + "]", run);
    }

    private static void faultless(String words, String text) {
        edges.sentence(words + " [" + text + "]", "nest 9 9 = BAD", "text " + text, "fault = NONE", "count 9 = 0");
    }

    private static String offset(int ticks) {
        return String.format("%04d", ticks);
    }

    private static void newObject() {
        edges.sentence("THE TEXT is empty", "count 10 = 0", "wipe = 0", "fault = NONE", "write 111 = 1");
        edges.sentence("CAUSES (none at first)", "count 9 = 0", "cause 0 = NONE");
        edges.sentence("an empty TEXT has no DEVICE", "lay ! NO 2");
        edges.alike("at first o418;d023;..", List.of("laid o418;d023;d012;d031;c00192;d123;d112;c00400;d221;l3;"), List.of());
    }

    private static void letters() {
        edges.sentence("A letter (32 to 126): BAD", "write 31 ! BAD", "write 127 ! BAD", "write 0 ! BAD", "write -1 ! BAD",
            "write LOW ! BAD", "write HIGH ! BAD", "write 288 ! BAD", "write 65647 ! BAD", "write -145 ! BAD",
            "write 32 = 1", "write 126 = 2", "write 31 ! BAD", "write 127 ! BAD", "count 10 = 2");
        List<String> run = new ArrayList<>();
        for (int letter = 32; letter <= 126; letter++) {
            run.add("write " + letter + " = " + (letter - 31));
        }
        edges.sentence("A letter (32 to 126) comes behind THE TEXT: how long it is", run);
    }

    private static void mostLetters() {
        List<String> run = new ArrayList<>(Collections.nCopies(198, "write 100"));
        run.addAll(List.of("write 32 = 199", "write 126 = 200", "write 100 ! FULL", "write 32 ! FULL", "write 126 ! FULL"));
        run.addAll(List.of("write 31 ! BAD", "write 127 ! BAD", "write HIGH ! BAD", "count 10 = 200", "fault ! 0 1 10"));
        run.addAll(List.of("wipe = 200", "count 10 = 0", "write 111 = 1"));
        edges.sentence("A TEXT is letters (200 at most): FULL, BAD ahead of it", run);
        edges.sentence("a TEXT of 200 letters is laid", "text " + EIGHT.substring(0, 20) + "l8;".repeat(59) + "l2;", "count 10 = 200",
            "fault = NONE", "lay = 3", "count 7 = 2", "write 108 ! FULL");
    }

    private static void wipes() {
        edges.sentence("THE TEXT is empty: how long it was", "wipe = 0", "write 120 = 1", "fault ! 0 1 10", "wipe = 1", "count 9 = 2",
            "count 10 = 0", "wipe = 0", "fault = NONE");
        edges.sentence("what was LAID stays when THE TEXT is wiped", "laid o001;d010;", "wipe = 10", "count 1 = 1", "count 3 = 48");
    }

    private static void cutItems() {
        for (String item : new String[] {"o418;", "c00192;", "d023;", "l3;"}) {
            String ahead = item.startsWith("o") ? "" : "o418;";
            for (int length = 1; length < item.length(); length++) {
                fault("11 no figure stands where one should, or no ; behind", ahead + item.substring(0, length), ahead.length(), "11");
            }
            faultless("an ITEM that is whole", ahead + item);
            String oneMore = item.replace(";", "1;");
            fault("numbers of so many figures", ahead + oneMore, ahead.length(), "11");
        }
    }

    /** The signs right ahead of and right behind the figures, and right beside the ; in ASCII, and some more. */
    private static void signsInItems() {
        for (String item : new String[] {"o418;", "c00192;", "d023;", "l3;"}) {
            String ahead = item.startsWith("o") ? "" : "o418;";
            for (int i = 1; i < item.length(); i++) {
                for (char sign : (i == item.length() - 1 ? ":< 09o~" : "/:; o~").toCharArray()) {
                    String spoilt = item.substring(0, i) + sign + item.substring(i + 1);
                    fault("11 no figure stands where one should, or no ; behind", ahead + spoilt, ahead.length(), "11");
                }
            }
        }
    }

    private static void orders() {
        String words = "oBSM orders B (0 to 5), S (0 to 3), LEAST M (1 to 9)";
        for (int b = 0; b <= 9; b++) {
            for (int s = 0; s <= 9; s++) {
                for (int m = 0; m <= 9; m++) {
                    String item = "o" + b + s + m;
                    if (b <= 5 && s <= 3 && s <= b && m >= 1) {
                        edges.sentence(words, "text " + item + ";d010;", "lay = 1", "count 3 = " + BEATS[b], "count 4 = " + ACTIVES[s],
                            "count 5 = " + ACTIVES[s] / 16, "count 6 = " + m);
                    } else {
                        edges.sentence(words, "text " + item + ";d010;", "fault = 0", "count 9 = 2", "cause 0 = 1", "cause 1 = 12",
                            "lay = NO");
                    }
                }
            }
        }
        for (String text : new String[] {"o6", "o7", "o9", "o54", "o44", "o59", "o34", "o01", "o12", "o23", "o04", "o000", "o530"}) {
            fault("12 a number, all its figures read, is none that is told (S more than B is so at S)", text, 0, "12");
            fault("12 is met ahead of what stands behind the number", text + "x", 0, "12");
            fault("12 is met ahead of the ;", text + ";", 0, "12");
        }
        for (String text : new String[] {"o5", "o53", "o539", "o0", "o00", "o001"}) {
            fault("numbers that are told, and nothing behind them", text, 0, "11");
        }
    }

    private static void ordersAheadOfAll() {
        for (String text : new String[] {"c00192;", "d023;", "l3;", "c", "d", "l", "d023;o418;", "l3;o418;", ";o418;", " o418;"}) {
            fault("another first ITEM is the FAULT", text, 0, "10");
        }
        for (String text : new String[] {"o418;", "o418;d023;", "o418;l3;", "o418;c00192;"}) {
            fault("told just once, ahead of all others", text + "o418;", text.length(), "10");
            fault("told just once, whatever stands behind it", text + "o", text.length(), "10");
            fault("told just once, whatever stands behind it", text + "o9", text.length(), "10");
        }
    }

    private static void lettersThatBeginNoItem() {
        for (char letter = 32; letter <= 126; letter++) {
            if ("cdl".indexOf(letter) < 0) {
                fault("10 its letter begins no ITEM, or is told in the wrong place", "o418;" + letter, 5, "10");
            }
            if (letter != 'o') {
                fault("10 its letter begins no ITEM, or another one is ahead of o", "" + letter, 0, "10");
            }
        }
    }

    private static void parents() {
        String words = "its PARENT P (a figure: there is such a one)";
        String text = "o501;";
        for (int many = 1; many <= 3; many++) {
            for (int p = 0; p <= 9; p++) {
                // Behind a told parent figures are due; behind another one the fault has been met already.
                fault(words, text + "c" + p, text.length(), p < many ? "11" : "12");
                fault(words, text + "c" + p + "x", text.length(), p < many ? "11" : "12");
            }
            text = text + "c" + (many - 1) + "0048;";
            faultless(words, text);
        }
        edges.sentence(words, "laid " + text + "d010;", "coordinator 1 1 = 0", "coordinator 2 1 = 1", "coordinator 3 1 = 2",
            "coordinator 3 0 = 144");
    }

    private static void offsets() {
        for (int b = 0; b < BEATS.length; b++) {
            for (int s = 0; s <= 3 && s <= b; s++) {
                String text = "o" + b + s + "1;c0";
                String words = "its OFFSET (four figures, less than a BEAT)";
                fault(words, text + offset(BEATS[b]), 5, "12");
                fault(words, text + offset(BEATS[b]) + ";", 5, "12");
                fault(words, text + "9999;", 5, "12");
                fault(words + ", with a TICK in common", text + offset(BEATS[b] - 1), 5, "13 20");
                fault(words + ", with a TICK in common", text + "0000;", 5, "13 20");
                fault(words + ", with a TICK in common", text + offset(ACTIVES[s] - 1) + ";", 5, "13 20");
                if (b > s) {
                    faultless("right behind the root", text + offset(ACTIVES[s]) + ";");
                    faultless("right ahead of the root", text + offset(BEATS[b] - ACTIVES[s]) + ";");
                    fault("one TICK too late", text + offset(BEATS[b] - ACTIVES[s] + 1) + ";", 5, "13 20");
                }
            }
        }
    }

    private static void homes() {
        String words = "HOME H (a figure: a COORDINATOR that there is)";
        String text = "o501;";
        for (int many = 1; many <= 4; many++) {
            for (int h = 0; h <= 9; h++) {
                fault(words, text + "d" + h, text.length(), h < many ? "11" : "12");
            }
            faultless(words, text + "d" + (many - 1) + "10;");
            fault("there is such a one: not one that is told later", text + "d" + many + "10;c00480;", text.length(), "12");
            text = text + "c" + (many - 1) + "0048;";
        }
        edges.sentence(words, "laid " + FOUR + "d310;d010;", "device 0 0 = 3", "device 1 0 = 0", "coordinator 3 3 = 1",
            "coordinator 0 3 = 2");
    }

    private static void lengthsAndExponents() {
        for (int f = 0; f <= 9; f++) {
            boolean told = f >= 1 && f <= 8;
            fault("LENGTH F (1 to 8)", "o001;d0" + f, 5, told ? "11" : "12");
            fault("LENGTH F (1 to 8)", "o001;d0" + f + "x", 5, told ? "11" : "12");
            if (told) {
                edges.sentence("LENGTH F (1 to 8)", "laid o001;d0" + f + "0;", "device 0 1 = " + f);
            }
        }
        for (int e = 0; e <= 9; e++) {
            fault("EXPONENT E (0 to 3)", "o001;d01" + e, 5, e <= 3 ? "11" : "12");
            fault("EXPONENT E (0 to 3)", "o001;d01" + e + "x", 5, e <= 3 ? "11" : "12");
            if (e <= 3) {
                edges.sentence("EXPONENT E (0 to 3), (10; E at first)", "laid o001;d01" + e + ";", "device 0 2 = " + e,
                    "device 0 10 = " + e);
            }
        }
    }

    private static void lives() {
        fault("LIFE (1 to 9)", "o001;l0", 5, "12");
        fault("LIFE (1 to 9)", "o001;l0;", 5, "12");
        fault("LIFE (1 to 9), looked at in each ITEM", "o001;l9;l0;l9;", 8, "12");
        for (int life = 1; life <= 9; life++) {
            fault("LIFE (1 to 9), and no ; behind", "o001;l" + life, 5, "11");
            edges.sentence("LIFE (1 to 9)", "laid o001;d010;l" + life + ";", "count 7 = " + life);
            edges.sentence("of several the last one counts", "laid o001;l9;d010;l1;l" + life + ";", "count 7 = " + life);
        }
        edges.sentence("4 without", "count 7 = 3", "laid o001;d010;", "count 7 = 4", "laid o001;l9;d010;", "count 7 = 9",
            "laid o001;d010;", "count 7 = 4");
        edges.sentence("a LIFE of a TEXT with a FAULT is forgotten", "text o001;d010;l9;x", "lay ! NO 1 10", "wipe", "text o001;d010;",
            "lay = 1", "count 7 = 4");
    }

    private static void mostCoordinators() {
        edges.sentence("COORDINATORS (4 at most)", "text " + FOUR + "d010;", "lay = 1", "count 0 = 4");
        for (String more : new String[] {"c", "c0", "c00500;", "c9", "cx", "c00000;"}) {
            fault("10 there are as many as can be", FOUR + more, 26, "10");
        }
        fault("10 there are as many as can be, DEVICES between them", "o501;c00048;d010;c00096;d010;c00144;d010;c00192;", 41, "10");
    }

    private static void mostDevices() {
        edges.sentence("DEVICES (8 at most)", "text " + EIGHT, "lay = 8", "count 1 = 8", "coordinator 0 3 = 255");
        for (String more : new String[] {"d", "d0", "d010;", "d9", "dx"}) {
            fault("10 there are as many as can be", EIGHT + more, 45, "10");
        }
        faultless("other ITEMS may come behind 8 DEVICES", "o101;" + EIGHT.substring(5) + "c00048;l9;");
    }

    private static void placesOfFaults() {
        String to199 = "o001;d010;" + "l1;".repeat(63);
        fault("FAULT: the place (from 0 on), the last one there can be", to199 + "x", 199, "10");
        fault("FAULT: the place of an ITEM for which THE TEXT has no room", to199 + "l", 199, "11");
        faultless("nothing stands at that place", to199);
        fault("FAULT: the place of the first letter of the ITEM, not of what is wrong in it", "o001;d010;d01x;", 10, "11");
        fault("the first ITEM that is not so", "o001;d090;x;o001;", 5, "12");
        fault("the first ITEM that is not so, the first of all", "o000;d090;x;", 0, "12");
        fault("the first ITEM that is not so, the last of all", "o001;d010;l1;l0;", 13, "12");
        fault("FAULT: the place (from 0 on)", "x", 0, "10");
    }

    private static void whatIsMetFirst() {
        fault("by what is met first: the letter", "o501;c00048;c10048;c20048;c90000", 26, "10");
        fault("by what is met first: P, then no figure", "o501;c1x", 5, "12");
        fault("by what is met first: no figure, then a number", "o501;c0x999;", 5, "11");
        fault("all its figures read: three of four are not", "o001;c0999", 5, "11");
        fault("all its figures read: three of four are not", "o001;c0999;", 5, "11");
        fault("by what is met first: an OFFSET ahead of the ;", "o001;c00048x", 5, "12");
        fault("by what is met first: an OFFSET ahead of a TICK in common", "o001;c00048;", 5, "12");
        fault("looked at when its numbers are read, ahead of the ;", "o501;c00047", 5, "13 20");
        fault("looked at when its numbers are read, ahead of the ;", "o501;c00047x", 5, "13 20");
        fault("looked at when its numbers are read, ahead of the ;", "o501;c000477;", 5, "13 20");
        fault("a number of four figures with none in common, then no ;", "o501;c00048x", 5, "11");
        fault("by what is met first: B ahead of S", "o6x", 0, "12");
        fault("by what is met first: S ahead of M", "o01x", 0, "12");
        fault("by what is met first: no S, then a wrong M", "o5x0", 0, "11");
        fault("by what is met first: H ahead of F", "o001;d1x", 5, "12");
        fault("by what is met first: F ahead of E", "o001;d00x", 5, "12");
        fault("by what is met first: no F, then a wrong E", "o001;d0x9", 5, "11");
        fault("by what is met first: E ahead of the ;", "o001;d014x", 5, "12");
    }

    /** ACTIVE is 96: 1 has TICKS 300 to 395, 2 has 200 to 295. */
    private static void ticksInCommon() {
        String words = "13 its ACTIVE part would have a TICK in common: then 20 and which, the lowest";
        String text = "o411;c00300;c00200;";
        int[][] startAndMet = {{95, 0}, {105, 2}, {204, 2}, {205, 1}, {250, 1}, {300, 1}, {395, 1}, {673, 0}, {767, 0}};
        for (int[] each : startAndMet) {
            fault(words, text + "c0" + offset(each[0]), 19, "13 2" + each[1]);
            // From 1 on: 300 and 468 are a BEAT.
            fault(words, text + "c1" + offset((each[0] + 468) % 768), 19, "13 2" + each[1]);
        }
        for (int start : new int[] {96, 104, 396, 672}) {
            faultless("ACTIVE parts that lie side by side", text + "c0" + offset(start) + ";");
            faultless("ACTIVE parts that lie side by side, modulo a BEAT", text + "c2" + offset((start + 568) % 768) + ";");
        }
        fault("of two the lowest, though it comes later in time", "o501;c00148;c00100;c00120;", 19, "13 21");
    }

    private static void aDeviceAtLeast() {
        for (String text : new String[] {"o001;", "o501;c00048;", "o001;l9;"}) {
            edges.sentence("LAID is a TEXT with a DEVICE at least (NO else)", "text " + text, "fault = NONE", "lay ! NO 2", "text d010;",
                "lay = 1", "count 9 = 0", "count 1 = 1");
        }
        edges.sentence("with a FAULT and without a DEVICE: the FAULT's CAUSES", "text o001;x", "lay ! NO 1 10");
    }

    private static void allAsAtFirst() {
        String text = "o203;d010;d010;d081;d010;d010;d010;c00048;l9;";
        List<String> moved = List.of("laid " + text, "seed 77", "nest 0 96", "ask 3 13", "load 3 1 90", "load 0 0 9", "load 1 0 9", "load 2 0 9",
            "deafen 4 9", "deafen 0 1", "run 7", "run 7", "join 5 2", "drop 1", "lay");
        edges.alike("LAID: all as at first, NOW 0, the SEED 1", moved, List.of("laid " + text));
        // Device 1 is HELD with LOOKS, TRIES and HURT frames then (EdgesOfRunsTest tells how).
        List<String> held = List.of("laid o001;d080;d011;", "seed 7", "load 0 0 1", "load 1 0 1", "load 0 1 9", "load 1 1 9", "ask 1 1", "drop 1", "run 1", "lay");
        edges.alike("LAID: all as at first, what DEVICES do, too", held, List.of("laid o001;d080;d011;"));
        edges.sentence("LAID: all as at first, what DEVICES do, too", "laid o001;d080;d011;", "seed 7", "load 0 0 1", "load 1 0 1",
            "load 1 1 9", "run 1", "device 1 9 = 3", "device 1 10 = 5", "device 1 11 = 4", "device 1 12 = 2", "device 1 13 = 2",
            "device 0 5 = 1", "lay = 2", "device 1 4 = 0", "device 1 9 = 0", "device 1 10 = 1", "device 1 11 = 0", "device 1 12 = 0",
            "device 1 13 = 0", "device 0 5 = 0");
        edges.sentence("(THE TEXT stays)", "text o001;d010;", "lay = 1", "count 10 = 10", "lay = 1", "text d010;", "lay = 2",
            "count 1 = 2");
        edges.sentence("fewer than there were: they are no more", "laid " + FOUR + "d310;d110;", "run 5", "laid o501;d010;",
            "coordinator 1 0 = BAD", "device 1 0 = BAD", "air 0 0 = NONE", "count 12 = 0", "join 0 1 = BAD", "nest 0 96 = 1",
            "coordinator 1 3 = 0", "coordinator 1 5 = 0");
        edges.sentence("refused, nothing changes", "load 0 0 3", "ask 1 2", "run 2", "text o001;d010;o", "lay ! NO 1 10", "count 3 = 768");
    }

    /** What each refusal leaves, whatever was refused ahead of it. */
    private static void causesCome() {
        String[] refusals = {"nest 3 0 ! BAD 18", "nest 0 1 ! NO 13 20", "ask 6 1 ! BAD 18", "ask 0 9 ! FULL 17 37", "ask 1 1 ! NO 15", "lay ! NO 1 12",
            "fault ! 0 1 12"};
        for (String first : refusals) {
            for (String second : refusals) {
                edges.sentence("CAUSES of the latest refusal", "drop 1", "text o6", first, second, first);
            }
        }
        edges.sentence("1, 2 and 3 CAUSES", "text o501;c00000", "lay ! NO 1 13 20", "cause 2 = 20", "cause 3 = NONE", "wipe", "lay ! NO 2",
            "cause 0 = 2", "cause 1 = NONE", "ask 0 9 ! FULL 17 37", "cause 1 = 37", "cause 2 = NONE");
    }

    private static void causesGo() {
        String[] goods = {"nest 0 550 = 3", "ask 0 1 = 15", "fault = NONE", "lay = 1"};
        for (String bad : new String[] {"nest 9 9 ! BAD 18", "ask 9 9 ! BAD 18", "ask 0 15 ! FULL 17 31", "nest 0 0 ! NO 13 20"}) {
            for (String good : goods) {
                edges.sentence("none again when one of these is not refused", "text o001;d010;", bad, good, "count 9 = 0",
                    "cause 0 = NONE");
            }
        }
        for (String bad : new String[] {"fault ! 5 1 12", "lay ! NO 1 12"}) {
            for (String good : goods) {
                edges.sentence("none again when one of these is not refused", "text o001;d9", bad, "wipe", "text o001;d010;", "count 9 = 2",
                    good, "count 9 = 0", "cause 0 = NONE");
            }
        }
        edges.sentence("FAULT. NONE (that is no refusal)", "lay ! NO 2", "fault = NONE", "count 9 = 0");
        edges.sentence("other calls leave them", "nest 0 1 ! NO 13 20", "write 111", "write 0 ! BAD", "wipe", "cause -1 ! BAD",
            "cause 9 ! NONE", "seed 65521 ! BAD", "seed 5", "join 0 0 ! NO", "join 0 1", "drop 6 ! BAD", "drop 0", "load 0 2 0 ! BAD",
            "load 0 0 99", "load 0 0 1 ! FULL", "deafen 0 10 ! BAD", "deafen 0 1", "scan 0 ! NO", "scan 6 ! BAD", "release 0 ! NO",
            "promise 0 0 0 ! NONE", "promise 3 0 0 ! BAD", "run 0 ! BAD", "run 1", "air 1 0 ! NONE", "air 0 96 ! BAD",
            "coordinator 3 0 ! BAD", "device 6 0 ! BAD", "count 13 ! BAD", "count 9 = 2", "cause 0 = 13", "cause 1 = 20");
    }

    private static void noSuchCause() {
        edges.sentence("The i-th CAUSE. BAD (below 0); NONE: not so many", "cause -1 ! BAD", "cause LOW ! BAD", "cause 0 ! NONE",
            "cause HIGH ! NONE", "lay ! NO 2", "cause -1 ! BAD", "cause 0 = 2", "cause 1 ! NONE", "nest 0 0 ! NO 13 20", "cause 0 = 13",
            "cause 1 = 20", "cause 2 ! NONE", "text o501;c00000", "fault ! 5 1 13 20", "cause -1 ! BAD", "cause 2 = 20", "cause 3 ! NONE",
            "cause 4 ! NONE", "cause HIGH ! NONE", "cause LOW ! BAD");
    }
}
