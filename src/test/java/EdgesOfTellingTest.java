import java.util.ArrayList;
import java.util.List;

/** The edges of promises 18 to 21: air, coordinator, device, count. */
public final class EdgesOfTellingTest {
    private static final Edges edges = new Edges("EdgesOfTellingTest");
    private static final int[] BEATS = {48, 96, 192, 384, 768, 1536};
    private static final int[] ACTIVES = {48, 96, 192, 384};
    private static final String EIGHT = "d010;d010;d010;d010;d010;d010;d010;d010;";

    public static void main(String[] args) {
        airNumbers();
        airInOrder();
        airTicks();
        airOfEachDevice();
        airOfTheLastPart();
        coordinatorNumbers();
        coordinatorTells();
        deviceNumbers();
        deviceTells();
        whatItDoes();
        countNumbers();
        countTells();
        lengthsOfTime();
        edges.end();
    }

    private static void airNumbers() {
        for (int s = 0; s < ACTIVES.length; s++) {
            int last = ACTIVES[s] - 1;
            String laid = "laid o5" + s + "1;d010;";
            edges.sentence("AIR at a TICK (0 to an ACTIVE part's last). BAD", laid, "run 1", "air 0 0 = 1", "air 0 " + last + " = 0",
                "air 0 " + (last + 1) + " ! BAD", "air 0 -1 ! BAD", "air 0 LOW ! BAD", "air 0 HIGH ! BAD");
            edges.sentence("NONE: it had none yet", laid, "air 0 0 ! NONE", "air 0 " + last + " ! NONE", "run 1", "air 0 0 = 1", "lay = 1",
                "air 0 0 ! NONE");
        }
        edges.sentence("of a COORDINATOR. BAD", "run 3", "air -1 0 ! BAD", "air 3 0 ! BAD", "air LOW 0 ! BAD", "air HIGH 0 ! BAD",
            "air 2 0 = 1", "nest 0 550 = 3", "air 3 0 ! NONE", "air 4 0 ! BAD", "run 1", "air 3 0 = 1");
    }

    private static void airInOrder() {
        edges.sentence("Of several the first in the order told: BAD, NONE", "air 0 96 ! BAD", "air 0 -1 ! BAD", "air 3 0 ! BAD",
            "air 0 95 ! NONE", "run 1", "air 1 0 ! NONE", "air 1 96 ! BAD", "air 0 96 ! BAD", "air 0 95 = 0");
    }

    private static void airTicks() {
        // Two send at 3, 6, 9, 12 and give up; device 1 has one more and sends at 15, and in its SLOT, the last one.
        edges.sentence("1 the BEACON, 10 and d: DEVICE d sends, 2 several send, 0 else", "laid o001;d010;d010;", "ask 1 1 = 15",
            "load 0 0 1", "load 1 0 2", "load 1 1 2", "run 1 = 3", "air 0 0 = 1", "air 0 1 = 0", "air 0 2 = 0", "air 0 3 = 2",
            "air 0 4 = 0", "air 0 6 = 2", "air 0 9 = 2", "air 0 12 = 2", "air 0 13 = 0", "air 0 14 = 0", "air 0 15 = 11", "air 0 16 = 0",
            "air 0 44 = 0", "air 0 45 = 11", "air 0 46 = 11", "air 0 47 = 0", "air 0 48 ! BAD");
    }

    private static void airOfEachDevice() {
        for (int d = 0; d < 8; d++) {
            edges.sentence("10 and d: DEVICE d sends", "laid o001;" + EIGHT, "ask " + d + " 1 = 15", "load " + d + " 0 1",
                "load " + d + " 1 1", "run 1 = 2", "air 0 3 = " + (10 + d), "air 0 45 = " + (10 + d), "air 0 46 = 0");
        }
    }

    private static void airOfTheLastPart() {
        edges.sentence("AIR of the last ACTIVE part of a COORDINATOR", "laid o101;c00048;d010;d110;", "ask 0 1 = 15", "load 0 0 1",
            "load 0 1 1", "load 1 0 1", "run 1 = 2", "air 0 3 = 10", "air 0 45 = 10", "air 1 0 ! NONE", "run 1 = 1", "air 1 3 = 11",
            "air 0 3 = 10", "air 0 45 = 10", "run 1 = 0", "air 0 0 = 1", "air 0 3 = 0", "air 0 45 = 0", "air 1 3 = 11", "run 1 = 0",
            "air 1 3 = 0");
        edges.sentence("AIR that is told anew is as long as an ACTIVE part is then", "laid o331;d080;", "ask 0 15 = 1", "load 0 1 45",
            "run 1 = 45", "air 0 383 = 10", "laid o001;d010;", "air 0 47 ! NONE", "air 0 48 ! BAD", "run 1", "air 0 47 = 0",
            "air 0 48 ! BAD", "air 0 383 ! BAD", "laid o331;d010;", "run 1", "air 0 383 = 0");
    }

    private static void coordinatorNumbers() {
        edges.sentence("Of a COORDINATOR: what = 0 to 5. BAD", "coordinator 0 -1 ! BAD", "coordinator 0 6 ! BAD", "coordinator 0 LOW ! BAD",
            "coordinator 0 HIGH ! BAD", "coordinator 0 0 = 0", "coordinator 0 5 = 0");
        edges.sentence("such as there are", "coordinator -1 0 ! BAD", "coordinator 3 0 ! BAD", "coordinator LOW 0 ! BAD",
            "coordinator HIGH 0 ! BAD", "coordinator 2 0 = 400", "nest 0 550 = 3", "coordinator 3 0 = 550", "coordinator 4 0 ! BAD",
            "laid o001;d010;", "coordinator 1 0 ! BAD", "coordinator 0 0 = 0");
    }

    private static void coordinatorTells() {
        edges.sentence("PARENT (1; NONE: the root)", "coordinator 0 1 = NONE", "coordinator 1 1 = 0", "coordinator 2 1 = 0",
            "nest 2 150 = 3", "coordinator 3 1 = 2");
        edges.sentence("the DEVICES on its LIST, a bit each (3): none, and all", "laid o101;c00048;" + EIGHT, "coordinator 0 3 = 255",
            "coordinator 1 3 = 0", "drop 0 = 1", "coordinator 0 3 = 254", "drop 7 = 1", "coordinator 0 3 = 126", "join 7 1 = 0",
            "coordinator 1 3 = 128", "join 0 1 = 0", "coordinator 1 3 = 129");
        edges.sentence("the TICK of its next BEACON (4), how many ACTIVE parts it had (5)", "coordinator 2 4 = 400", "coordinator 2 5 = 0",
            "run 2", "coordinator 2 4 = 400", "coordinator 0 4 = 768", "coordinator 0 5 = 1", "coordinator 1 4 = 960", "run 1",
            "coordinator 2 4 = 1168", "coordinator 2 5 = 1");
        edges.sentence("SHARED (2): 16, down to LEAST", "laid o001;d010;", "coordinator 0 2 = 16", "ask 0 15 = 1", "coordinator 0 2 = 1");
    }

    private static void deviceNumbers() {
        edges.sentence("Of a DEVICE: what = 0 to 13. BAD", "device 0 -1 ! BAD", "device 0 14 ! BAD", "device 0 LOW ! BAD",
            "device 0 HIGH ! BAD", "device 0 0 = 0", "device 0 13 = 0");
        edges.sentence("such as there are", "device -1 0 ! BAD", "device 6 0 ! BAD", "device LOW 0 ! BAD", "device HIGH 0 ! BAD",
            "device 5 0 = 2", "laid o001;d010;", "device 1 0 ! BAD", "laid o001;" + EIGHT, "device 7 0 = 0", "device 8 0 ! BAD");
    }

    private static void deviceTells() {
        List<String> run = new ArrayList<>(List.of("laid o101;c00048;d183;"));
        int[] first = {1, 8, 3, 0, 0, 0, 0, 0, 0, 0, 3, 0, 0, 0};
        for (int what = 0; what < first.length; what++) {
            run.add("device 0 " + what + " = " + first[what]);
        }
        run.addAll(List.of("load 0 0 99", "load 0 1 99", "deafen 0 9", "device 0 3 = 99", "device 0 4 = 99", "device 0 8 = 9", "run 8",
            "device 0 0 = NONE", "device 0 7 = 4"));
        run.addAll(List.of("device 0 8 = 5", "device 0 3 = 99", "device 0 4 = 99"));
        edges.sentence("Of a DEVICE: each at first, and what an ORPHAN is", run);
    }

    private static void whatItDoes() {
        // It RESTS with frames until a BEACON; HELD at the end of a part in which a frame did not fit.
        edges.sentence("what it does (9: 0 RESTS, .. 3 HELD)", "laid o001;d080;d010;", "load 0 0 1", "device 0 9 = 0", "ask 1 15 = 1",
            "run 1 = 0", "device 0 9 = 3", "release 1", "device 0 9 = 3", "run 1 = 1", "device 0 9 = 0");
        edges.sentence("its EXPONENT (10), LOOKS (11) till the next frame begins", "laid o001;d080;d011;", "seed 54", "load 0 0 1",
            "load 1 0 1", "run 1 = 2", "device 1 10 = 5", "device 1 11 = 4", "run 1 = 0", "device 1 10 = 5", "device 1 11 = 4",
            "load 1 0 1", "run 1 = 1", "device 1 10 = 1", "device 1 11 = 0");
    }

    private static void countNumbers() {
        edges.sentence("How many: what = 0 to 12. BAD", "count -1 ! BAD", "count 13 ! BAD", "count LOW ! BAD", "count HIGH ! BAD",
            "count 0 = 3", "count 12 = 0");
    }

    private static void countTells() {
        int[] first = {3, 6, 0, 768, 96, 6, 8, 3, 1, 0, 0, 0, 0};
        List<String> run = new ArrayList<>();
        for (int what = 0; what < first.length; what++) {
            run.add("count " + what + " = " + first[what]);
        }
        edges.sentence("How many, at first", run);
        edges.sentence("0 COORDINATORS, 1 DEVICES: one, and as many as can be", "laid o001;d010;", "count 0 = 1", "count 1 = 1",
            "laid o501;c00048;c10048;c20048;" + EIGHT, "count 0 = 4", "count 1 = 8");
        edges.sentence("9 CAUSES: none to three", "count 9 = 0", "lay ! NO 2", "count 9 = 1", "ask 0 9 ! FULL 17 37", "count 9 = 2",
            "text o501;c00000", "fault ! 5 1 13 20", "count 9 = 3", "ask 0 1 = 15", "count 9 = 0");
        edges.sentence("12 ACTIVE parts that went", "run 20", "count 12 = 20", "run 1", "count 12 = 21", "coordinator 0 5 = 7",
            "laid o001;d010;", "count 12 = 0");
    }

    private static void lengthsOfTime() {
        for (int b = 0; b < BEATS.length; b++) {
            for (int s = 0; s <= 3 && s <= b; s++) {
                edges.sentence("a BEAT is 48 times 2 to the B TICKS, an ACTIVE part 48 times 2 to the S, a SLOT 3 times 2 to the S",
                    "laid o" + b + s + "1;d010;", "count 3 = " + BEATS[b], "count 4 = " + ACTIVES[s], "count 5 = " + ACTIVES[s] / 16,
                    "run 2", "count 2 = " + (BEATS[b] + ACTIVES[s]), "coordinator 0 4 = " + 2 * BEATS[b]);
            }
        }
    }
}
