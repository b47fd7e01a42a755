import java.util.ArrayList;
import java.util.List;

/** The edges of promises 9 to 13: join, drop, load, deafen, scan, and of BEACONS that are missed. */
public final class EdgesOfDevicesTest {
    private static final Edges edges = new Edges("EdgesOfDevicesTest");
    private static final String MOST = "laid o501;c00048;c10048;c20048;d010;d110;d210;d310;d010;d110;d210;d310;";

    public static void main(String[] args) {
        joinNumbers();
        joinNo();
        joinLists();
        joinMissed();
        joinPromises();
        joinContending();
        drops();
        dropPromises();
        loadNumbers();
        loadFull();
        deafenNumbers();
        deafTo();
        missedFour();
        missedNone();
        orphansDoNothing();
        scans();
        scanNone();
        manyOrphans();
        edges.end();
    }

    private static void joinNumbers() {
        edges.sentence("A DEVICE is HOMED at a COORDINATOR: BAD (such as there are)", "join -1 0 ! BAD", "join 6 0 ! BAD",
            "join LOW 0 ! BAD", "join HIGH 0 ! BAD", "join 0 -1 ! BAD", "join 0 3 ! BAD", "join 0 LOW ! BAD", "join 0 HIGH ! BAD",
            "join 6 3 ! BAD", "join 5 0 = 2", "join 0 2 = 0");
        edges.sentence("such as there are: as few as can be", "laid o001;d010;", "join 0 1 ! BAD", "join 1 0 ! BAD", "join 0 0 ! NO");
        edges.sentence("such as there are: as many as can be", MOST, "join 7 4 ! BAD", "join 8 3 ! BAD", "join 8 4 ! BAD", "join 7 3 ! NO",
            "join 7 0 = 3", "join 0 3 = 0", "coordinator 3 3 = 9", "coordinator 0 3 = 144");
        edges.sentence("such as there are: one that is nested", "join 0 3 ! BAD", "nest 0 550 = 3", "join 0 3 = 0", "join 0 4 ! BAD");
    }

    private static void joinNo() {
        edges.sentence("NO: it is HOMED there and on that LIST", "join 0 0 ! NO", "join 0 1 = 0", "join 0 1 ! NO", "join 0 0 = 1",
            "join 0 0 ! NO");
        edges.sentence("HOMED there, but not on that LIST: it joins", "drop 0 = 1", "join 0 0 = 0", "coordinator 0 3 = 7", "join 0 0 ! NO");
        edges.sentence("on that LIST, but not HOMED there: it joins", "laid o001;d010;", "deafen 0 4", "run 4", "device 0 0 = NONE",
            "coordinator 0 3 = 1", "join 0 0 = NONE", "device 0 0 = 0", "join 0 0 ! NO");
    }

    private static void joinLists() {
        edges.sentence("on its LIST, on no other one", MOST, "join 7 1 = 3", "coordinator 0 3 = 17", "coordinator 1 3 = 162",
            "coordinator 2 3 = 68", "coordinator 3 3 = 8", "device 7 0 = 1", "join 7 2 = 1", "coordinator 1 3 = 34",
            "coordinator 2 3 = 196", "join 7 0 = 2", "coordinator 2 3 = 68", "coordinator 0 3 = 145");
        edges.sentence("off its LIST and HOMED elsewhere then", "drop 0 = 1", "join 0 1 = 0", "coordinator 0 3 = 6", "coordinator 1 3 = 25",
            "drop 0 = 1");
    }

    private static void joinMissed() {
        edges.sentence("at which it was HOMED; NONE: it was an ORPHAN", "deafen 1 4", "run 3", "deafen 0 3", "run 9", "device 0 7 = 3",
            "device 1 7 = 4", "join 1 2 = NONE", "join 0 2 = 0", "device 0 7 = 0", "device 1 7 = 0", "count 11 = 0");
        edges.sentence("MISSED none: 3 more do not make it an ORPHAN, 4 do", "laid o501;c00048;d010;", "deafen 0 9", "run 6",
            "device 0 7 = 3", "join 0 1 = 0", "device 0 7 = 0", "device 0 8 = 6", "run 6", "device 0 7 = 3", "device 0 0 = 1", "run 1",
            "device 0 0 = 1", "run 1", "device 0 0 = NONE", "device 0 8 = 2");
        edges.sentence("MISSED is 0 when it is HOMED there, but was on no LIST", "laid o001;d010;", "deafen 0 3", "run 3", "drop 0",
            "join 0 0 = 0", "device 0 7 = 0");
    }

    private static void joinPromises() {
        edges.sentence("PROMISES of others to it go", "ask 0 3 = 13", "ask 1 2 = 11", "join 0 1 = 0", "promise 0 -1 0 = 1",
            "promise 0 0 0 = 1", "promise 0 0 1 = 14", "coordinator 0 2 = 14", "release 0 ! NO", "ask 0 3 = 13", "promise 1 0 0 = 0");
        edges.sentence("PROMISES of that one to it stay", "laid o001;d010;d010;l9;", "ask 1 1", "ask 0 3 = 12", "deafen 0 4", "run 4",
            "device 0 0 = NONE", "join 0 0 = NONE", "promise 0 -1 0 = 2", "promise 0 1 0 = 0", "promise 0 1 1 = 12", "promise 0 1 3 = 4",
            "ask 0 1 ! NO 15", "release 0 = 3");
        edges.sentence("an ORPHAN's PROMISE goes when it joins another one", "laid o501;c00048;d010;l9;", "ask 0 3 = 13", "deafen 0 4",
            "run 8", "promise 0 -1 0 = 1", "join 0 1 = NONE", "promise 0 -1 0 = 0", "promise 1 -1 0 = 0");
    }

    private static void joinContending() {
        // K is 3: no frame fits, so that its sender is HELD.
        edges.sentence("(What it does in contending stays.)", "laid o101;d010;d012;c00048;", "ask 0 15 = 1", "load 1 0 2", "run 2 = 0",
            "device 1 9 = 3", "join 1 1 = 0", "device 1 9 = 3", "device 1 10 = 2", "device 1 3 = 2", "run 1 = 0", "device 1 9 = 3",
            "run 1 = 2", "device 1 9 = 0");
    }

    private static void drops() {
        edges.sentence("A DEVICE is struck off all LISTS: on how many it was (0, 1). BAD", "drop -1 ! BAD", "drop 6 ! BAD",
            "drop LOW ! BAD", "drop HIGH ! BAD", "drop 0 = 1", "drop 0 = 0", "coordinator 0 3 = 6", "drop 5 = 1", "coordinator 2 3 = 0",
            "drop 5 = 0");
        edges.sentence("such as there are", "laid o001;d010;", "drop 1 ! BAD", "drop 0 = 1", MOST, "drop 8 ! BAD", "drop 7 = 1",
            "coordinator 3 3 = 8");
        edges.sentence("(HOMED, it stays so.)", "drop 0 = 1", "device 0 0 = 0", "load 0 0 1", "run 1 = 1", "device 0 7 = 0");
        edges.sentence("an ORPHAN is dropped, too", "laid o001;d010;", "deafen 0 4", "run 4", "drop 0 = 1", "device 0 0 = NONE",
            "coordinator 0 3 = 0", "device 0 7 = 4", "drop 0 = 0");
    }

    private static void dropPromises() {
        edges.sentence("PROMISES to it go", "ask 0 1 = 15", "ask 1 2 = 13", "ask 2 3 = 10", "drop 1 = 1", "promise 0 -1 0 = 2",
            "promise 0 1 0 = 2", "promise 0 1 1 = 12", "coordinator 0 2 = 12", "release 1 ! NO", "drop 1 = 0", "promise 0 -1 0 = 2");
        edges.sentence("an ORPHAN's PROMISE goes", "laid o001;d010;l9;", "ask 0 15 = 1", "deafen 0 4", "run 4", "promise 0 -1 0 = 1",
            "drop 0 = 1", "promise 0 -1 0 = 0", "coordinator 0 2 = 16");
    }

    private static void loadNumbers() {
        edges.sentence("So many frames more: BAD a DEVICE", "load -1 0 1 ! BAD", "load 6 0 1 ! BAD", "load LOW 1 1 ! BAD",
            "load HIGH 1 1 ! BAD", "load 5 0 1 = 1");
        edges.sentence("to CONTEND (kind = 0), to be PROMISED (1)", "load 0 -1 1 ! BAD", "load 0 2 1 ! BAD", "load 0 LOW 1 ! BAD",
            "load 0 HIGH 1 ! BAD", "load 0 0 1 = 1", "load 0 1 2 = 2", "device 0 3 = 1", "device 0 4 = 2");
        for (int kind = 0; kind <= 1; kind++) {
            String call = "load 0 " + kind + " ";
            edges.sentence("So many frames (0 to 99)", call + "-1 ! BAD", call + "100 ! BAD", call + "LOW ! BAD", call + "HIGH ! BAD",
                call + "0 = 0", call + "99 = 99", call + "0 = 99", call + "-1 ! BAD", call + "100 ! BAD");
        }
        edges.sentence("such as there are", "laid o001;d010;", "load 1 0 1 ! BAD", "load 0 0 99 = 99", MOST, "load 8 1 1 ! BAD",
            "load 7 1 99 = 99");
    }

    private static void loadFull() {
        for (int kind = 0; kind <= 1; kind++) {
            String call = "load 1 " + kind + " ";
            edges.sentence("FULL: more than 99", call + "50 = 50", call + "50 ! FULL", call + "99 ! FULL", call + "49 = 99",
                call + "1 ! FULL", call + "99 ! FULL", call + "0 = 99", "device 1 " + (3 + kind) + " = 99",
                "device 1 " + (4 - kind) + " = 0");
            edges.sentence("Of several the first in the order told: BAD, FULL", call + "99 = 99", call + "100 ! BAD", call + "-1 ! BAD",
                "load 1 2 1 ! BAD", "load 6 " + kind + " 1 ! BAD", call + "1 ! FULL");
            edges.sentence("the kinds are counted each", "load 1 " + kind + " 99 = 99", "load 1 " + (1 - kind) + " 99 = 99",
                call + "1 ! FULL");
        }
        edges.sentence("room again, when frames are gone", "laid o001;d010;", "load 0 0 99 = 99", "run 1 = 15", "load 0 0 16 ! FULL",
            "load 0 0 15 = 99");
    }

    private static void deafenNumbers() {
        edges.sentence("A DEVICE is DEAF to the next n BEACONS (0 to 9): to how many it was. BAD", "deafen -1 1 ! BAD", "deafen 6 1 ! BAD",
            "deafen LOW 1 ! BAD", "deafen HIGH 1 ! BAD", "deafen 0 -1 ! BAD", "deafen 0 10 ! BAD", "deafen 0 LOW ! BAD",
            "deafen 0 HIGH ! BAD", "device 0 8 = 0", "deafen 0 9 = 0", "device 0 8 = 9", "deafen 0 10 ! BAD", "deafen 0 0 = 9",
            "device 0 8 = 0", "deafen 0 1 = 0", "deafen 5 9 = 0");
        edges.sentence("such as there are", "laid o001;d010;", "deafen 1 1 ! BAD", "deafen 0 9 = 0", MOST, "deafen 8 1 ! BAD",
            "deafen 7 9 = 0");
    }

    private static void deafTo() {
        for (int n = 0; n <= 3; n++) {
            List<String> run = new ArrayList<>(List.of("laid o001;d010;", "load 0 0 1", "deafen 0 " + n));
            for (int i = 1; i <= n; i++) {
                run.addAll(List.of("run 1 = 0", "device 0 7 = " + i, "device 0 8 = " + (n - i), "device 0 9 = 0"));
            }
            run.addAll(List.of("run 1 = 1", "device 0 7 = 0", "device 0 8 = 0"));
            edges.sentence("each DEVICE HOMED there HEARS it, unless it is DEAF (to one less then)", run);
        }
        edges.sentence("DEAF to BEACONS of its COORDINATOR, not to those of others", "deafen 3 1", "load 3 0 1", "run 1 = 0",
            "device 3 8 = 1", "device 3 7 = 0", "run 1 = 0", "device 3 8 = 0", "device 3 7 = 1", "run 2 = 0", "device 3 7 = 1", "run 1",
            "device 3 7 = 0");
    }

    private static void missedFour() {
        edges.sentence("it has MISSED one more, and is an ORPHAN if that are 4", "laid o001;d010;", "deafen 0 4", "run 3", "device 0 7 = 3",
            "device 0 0 = 0", "count 11 = 0", "run 1", "device 0 7 = 4", "device 0 0 = NONE", "device 0 8 = 0", "count 11 = 1",
            "coordinator 0 3 = 1");
        edges.sentence("MISSED 4, told in several goes", "laid o001;d010;", "deafen 0 2", "run 2", "deafen 0 2 = 0", "run 1",
            "device 0 0 = 0", "run 1", "device 0 0 = NONE");
        edges.sentence("DEAF to more than it takes to be an ORPHAN", "laid o001;d010;", "deafen 0 9", "run 20", "device 0 7 = 4",
            "device 0 8 = 5", "scan 0 = 0", "run 3", "device 0 0 = 0", "run 1", "device 0 0 = NONE", "device 0 8 = 1", "scan 0 = 0",
            "run 1", "device 0 7 = 1", "run 1", "device 0 7 = 0");
    }

    private static void missedNone() {
        edges.sentence("HEARD, it has MISSED none: 3 and 3 are not 4", "laid o001;d010;", "deafen 0 3", "run 3", "device 0 7 = 3", "run 1",
            "device 0 7 = 0", "deafen 0 3 = 0", "run 3", "device 0 7 = 3", "device 0 0 = 0", "run 1", "device 0 7 = 0");
    }

    private static void orphansDoNothing() {
        edges.sentence("who becomes an ORPHAN at a BEACON takes no part", "laid o001;d010;l9;", "ask 0 1", "load 0 0 5", "load 0 1 5",
            "deafen 0 4", "run 9 = 0", "device 0 3 = 5", "device 0 4 = 5", "device 0 7 = 4", "device 0 9 = 0", "promise 0 0 3 = 9",
            "count 8 = 1", "air 0 0 = 1", "air 0 3 = 0");
        edges.sentence("who was HELD stays HELD, an ORPHAN", "laid o001;d010;d012;l9;", "ask 0 15", "load 1 0 1", "run 1 = 0",
            "device 1 9 = 3", "count 8 = 20264", "deafen 1 9", "run 5", "device 1 0 = NONE", "device 1 9 = 3", "count 8 = 20264",
            "release 0 = 15", "scan 1 = 0", "deafen 1 0", "run 1 = 1", "device 1 9 = 0");
    }

    private static void scans() {
        edges.sentence("An ORPHAN SCANS: BAD", "scan -1 ! BAD", "scan 6 ! BAD", "scan LOW ! BAD", "scan HIGH ! BAD");
        edges.sentence("such as there are", "laid o001;d010;", "scan 1 ! BAD", "scan 0 ! NO", MOST, "scan 8 ! BAD", "scan 7 ! NO");
        edges.sentence("NO: it is no ORPHAN", "scan 0 ! NO", "scan 5 ! NO", "deafen 5 4", "run 9", "device 5 7 = 3", "scan 5 ! NO", "run 3",
            "scan 5 = 2", "device 5 0 = 2", "device 5 7 = 0", "scan 5 ! NO");
        for (int c = 0; c < 4; c++) {
            edges.sentence("the lowest COORDINATOR on whose LIST it is answers: it is HOMED there, MISSED none", MOST,
                "join 6 " + (c == 2 ? 0 : c), "join 6 " + c, "deafen 6 4", "run 16", "device 6 0 = NONE", "scan 6 = " + c,
                "device 6 0 = " + c, "device 6 7 = 0", "count 11 = 0");
        }
        edges.sentence("no ORPHAN, off all LISTS", "drop 0", "scan 0 ! NO");
    }

    private static void scanNone() {
        edges.sentence("NONE answers", "laid o001;d010;", "deafen 0 4", "run 4", "drop 0 = 1", "scan 0 ! NONE", "device 0 7 = 4",
            "count 11 = 1", "join 0 0 = NONE", "deafen 0 4", "run 4", "scan 0 = 0");
        edges.sentence("struck off while it was HOMED", "laid o001;d010;", "drop 0 = 1", "deafen 0 4", "run 4", "scan 0 ! NONE");
    }

    private static void manyOrphans() {
        List<String> run = new ArrayList<>(List.of(MOST));
        for (int d = 0; d < 8; d++) {
            run.add("deafen " + d + " 4");
        }
        run.addAll(List.of("run 12", "count 11 = 0", "run 1", "count 11 = 2", "run 1", "count 11 = 4", "run 1", "count 11 = 6", "run 1",
            "count 11 = 8", "run 4 = 0"));
        for (int d = 0; d < 8; d++) {
            run.addAll(List.of("scan " + d + " = " + d % 4, "count 11 = " + (7 - d)));
        }
        edges.sentence("11 ORPHANS: none, and all", run);
    }
}
