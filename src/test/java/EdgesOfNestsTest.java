import java.util.ArrayList;
import java.util.List;

/** The edges of promises 7 and 8: nest and seed, a START modulo a BEAT, and the first BEACON of one that is nested. */
public final class EdgesOfNestsTest {
    private static final Edges edges = new Edges("EdgesOfNestsTest");
    private static final int[] BEATS = {48, 96, 192, 384, 768, 1536};
    private static final int[] ACTIVES = {48, 96, 192, 384};

    public static void main(String[] args) {
        parents();
        offsets();
        full();
        everyOffset();
        startsModuloABeat();
        placesForAll();
        newlyNested();
        firstBeaconsAheadOfAll();
        firstBeaconsNowOrLater();
        seeds();
        seedsModulo();
        edges.end();
    }

    private static void parents() {
        String words = "A COORDINATOR more, of a PARENT: BAD (such as there are)";
        edges.sentence(words, "laid o501;d010;", "nest -1 48 ! BAD 18", "nest 1 48 ! BAD 18", "nest 4 48 ! BAD 18", "nest LOW 48 ! BAD 18",
            "nest HIGH 48 ! BAD 18", "nest 0 48 = 1", "nest 2 48 ! BAD 18", "nest 1 48 = 2", "nest 3 48 ! BAD 18", "nest 2 48 = 3",
            "nest 4 48 ! BAD 18", "nest -1 48 ! BAD 18", "coordinator 1 1 = 0", "coordinator 2 1 = 1", "coordinator 3 1 = 2",
            "count 9 = 1");
    }

    private static void offsets() {
        for (int b = 0; b < BEATS.length; b++) {
            for (int s = 0; s <= 3 && s <= b; s++) {
                int beat = BEATS[b];
                int active = ACTIVES[s];
                String laid = "laid o" + b + s + "1;d010;";
                edges.sentence("an OFFSET (0 to less than a BEAT): BAD", laid, "nest 0 -1 ! BAD 18", "nest 0 " + beat + " ! BAD 18",
                    "nest 0 LOW ! BAD 18", "nest 0 HIGH ! BAD 18", "nest 0 " + 2 * beat + " ! BAD 18");
                edges.sentence("an OFFSET (0 to less than a BEAT): NO", laid, "nest 0 0 ! NO 13 20", "nest 0 " + (beat - 1) + " ! NO 13 20",
                    "nest 0 " + (active - 1) + " ! NO 13 20", "nest 0 " + (beat - active + 1) + " ! NO 13 20");
                String answer = b > s ? " = 1" : " = NO";
                edges.sentence("right behind the root", laid, "nest 0 " + Math.min(active, beat - 1) + answer);
                edges.sentence("right ahead of the root", laid, "nest 0 " + (beat - active) + answer);
            }
        }
    }

    private static void full() {
        edges.sentence("FULL: 4", "count 0 = 3", "nest 0 550 = 3", "nest 0 650 ! FULL 14", "count 0 = 4");
        edges.sentence("Of several the first in the order told: BAD, FULL, NO", "nest 0 0 ! NO 13 20", "nest 0 768 ! BAD 18",
            "nest 0 550 = 3", "nest 0 0 ! FULL 14", "nest 3 0 ! FULL 14", "nest 4 0 ! BAD 18", "nest 0 768 ! BAD 18", "nest -1 0 ! BAD 18",
            "nest 0 -1 ! BAD 18");
        edges.sentence("FULL: 4 that were told in THE TEXT", "laid o501;d010;c00048;c10048;c20048;", "nest 0 500 ! FULL 14",
            "nest 3 500 ! FULL 14", "laid o501;d010;c00048;c10048;", "nest 0 500 = 3", "nest 0 600 ! FULL 14");
    }

    /** BEAT is 384, ACTIVE 96. The root has 0 to 95, 1 has 100 to 195: a START may be 196 to 288. */
    private static void everyOffset() {
        String words = "NO: it would have a TICK in common with another one: 13, then 20 and which, the lowest";
        for (int offset = 0; offset < 384; offset++) {
            everyOffset(words, 0, offset, offset);
            everyOffset(words, 1, offset, (offset + 100) % 384);
        }
        for (int start : new int[] {95, 96, 195, 289, 383}) {
            int met = start == 96 || start == 195 ? 1 : 0;
            edges.sentence(words, "laid o311;d010;c00100;", "nest 0 " + start + " ! NO 13 2" + met);
        }
    }

    private static void everyOffset(String words, int parent, int offset, int start) {
        String laid = "laid o311;d010;c00100;";
        String call = "nest " + parent + " " + offset;
        if (start >= 196 && start <= 288) {
            edges.sentence(words, laid, call + " = 2", "coordinator 2 0 = " + start, "coordinator 2 1 = " + parent,
                "coordinator 2 4 = " + start);
        } else {
            int met = start <= 95 || start >= 289 ? 0 : 1;
            edges.sentence(words, laid, call + " = NO", "count 9 = 2", "cause 0 = 13", "cause 1 = 2" + met, "count 0 = 2");
        }
    }

    private static void startsModuloABeat() {
        String words = "another one's OFFSET TICKS behind its PARENT's START, modulo a BEAT";
        // A BEAT is 192: 96 and 95 are one less than it, 96 and 96 just it, 144 and 96 48 more.
        edges.sentence(words, "laid o201;d010;c00096;", "nest 1 95 ! NO 13 20", "nest 1 96 ! NO 13 20", "nest 1 97 ! NO 13 20",
            "nest 1 143 ! NO 13 20", "nest 1 144 = 2", "coordinator 2 0 = 48", "nest 2 96 = 3", "coordinator 3 0 = 144");
        edges.sentence(words, "laid o201;d010;c00096;", "nest 1 48 = 2", "coordinator 2 0 = 144", "nest 2 95 ! NO 13 20",
            "nest 2 97 ! NO 13 21", "nest 2 96 = 3", "coordinator 3 0 = 48");
        edges.sentence(words + ", in a TEXT", "laid o201;d010;c00096;c10144;c20096;", "coordinator 2 0 = 48", "coordinator 3 0 = 144",
            "coordinator 2 4 = 48");
        edges.sentence(words + ", the longest way", "laid o501;d010;c01488;", "coordinator 1 0 = 1488", "nest 1 1488 = 2",
            "coordinator 2 0 = 1440", "nest 2 1535 ! NO 13 22", "nest 2 1488 = 3", "coordinator 3 0 = 1392");
        edges.sentence(words + ", the last OFFSET", "laid o501;d010;c00700;", "nest 1 1535 ! NO 13 21", "nest 1 1536 ! BAD 18");
    }

    private static void placesForAll() {
        edges.sentence("ACTIVE parts of two COORDINATORS never have a TICK in common: just enough room",
            "laid o201;d010;c00048;c00096;c00144;", "count 0 = 4", "run 8", "count 2 = 384");
        edges.sentence("just enough room, and 4 at most", "laid o531;d010;", "nest 0 384 = 1", "nest 1 384 = 2", "nest 2 383 ! NO 13 22",
            "nest 2 385 ! NO 13 20", "nest 2 384 = 3", "coordinator 3 0 = 1152");
        edges.sentence("room for one more alone", "laid o101;d010;", "nest 0 47 ! NO 13 20", "nest 0 49 ! NO 13 20", "nest 0 48 = 1",
            "nest 0 48 ! NO 13 21", "nest 1 48 ! NO 13 20");
        edges.sentence("no room at all", "laid o331;d010;", "nest 0 0 ! NO 13 20", "nest 0 192 ! NO 13 20", "nest 0 383 ! NO 13 20",
            "nest 0 384 ! BAD 18");
    }

    private static void newlyNested() {
        edges.sentence("A COORDINATOR more: its number", "laid o501;d010;", "run 3", "nest 0 200 = 1", "coordinator 1 0 = 200",
            "coordinator 1 1 = 0", "coordinator 1 2 = 16", "coordinator 1 3 = 0", "coordinator 1 5 = 0", "air 1 0 ! NONE",
            "promise 1 -1 0 = 0", "promise 1 0 0 ! NONE", "count 0 = 2", "join 0 1 = 0", "coordinator 1 3 = 1", "ask 0 15 = 1",
            "coordinator 1 2 = 1");
    }

    private static void firstBeaconsAheadOfAll() {
        edges.sentence("the first of each one at its START; NOW (0 at first)", "laid o401;d010;c00500;", "count 2 = 0",
            "coordinator 0 4 = 0", "coordinator 1 4 = 500", "nest 0 48 = 2", "coordinator 2 4 = 48", "nest 0 720 = 3",
            "coordinator 3 4 = 720", "run 4", "count 2 = 768", "coordinator 0 4 = 768", "coordinator 1 4 = 1268", "coordinator 2 4 = 816",
            "coordinator 3 4 = 1488");
    }

    /** BEAT is 768, ACTIVE 48. */
    private static void firstBeaconsNowOrLater() {
        String words = "of one that is nested later at the first such TICK that is NOW or later";
        edges.sentence(words, "laid o401;d010;", "run 1", "count 2 = 48", "nest 0 48 = 1", "coordinator 1 4 = 48", "run 1",
            "coordinator 1 5 = 1", "count 2 = 96", "air 1 0 = 1");
        edges.sentence(words, "laid o401;d010;", "run 1", "nest 0 49 = 1", "coordinator 1 4 = 49", "nest 0 720 = 2",
            "coordinator 2 4 = 720");
        edges.sentence(words + ": a BEAT later", "laid o401;d010;", "run 2", "count 2 = 816", "nest 0 48 = 1", "coordinator 1 4 = 816",
            "nest 0 720 = 2", "coordinator 2 4 = 1488");
        // 252 to 299 lies right ahead of the last ACTIVE part, 348 right behind it.
        edges.sentence(words + ": what lies ahead of NOW", "laid o401;d010;c00300;", "run 2", "count 2 = 348", "nest 0 252 = 2",
            "coordinator 2 4 = 1020", "nest 0 348 = 3", "coordinator 3 4 = 348", "run 1", "coordinator 3 5 = 1", "coordinator 2 5 = 0",
            "run 1", "coordinator 0 5 = 2", "run 1", "coordinator 2 5 = 1", "count 2 = 1068");
        edges.sentence(words + ": many BEATS on", "laid o401;d010;", "run 20", "count 2 = " + (19 * 768 + 48), "nest 0 48 = 1",
            "coordinator 1 4 = " + (19 * 768 + 48), "nest 1 48 = 2", "coordinator 2 4 = " + (19 * 768 + 96), "run 3",
            "coordinator 0 5 = 21", "coordinator 1 5 = 1", "coordinator 2 5 = 1");
    }

    private static void seeds() {
        List<String> run = new ArrayList<>(List.of("count 8 = 1", "seed -1 ! BAD", "seed 65521 ! BAD", "seed LOW ! BAD", "seed HIGH ! BAD", "seed 0 = 1"));
        run.addAll(List.of("count 8 = 0", "seed -1 ! BAD", "seed 65520 = 0", "count 8 = 65520", "seed 65521 ! BAD", "seed 65520 = 65520",
            "seed 1 = 65520"));
        edges.sentence("SEED (0 to 65520) is told anew: what it was. BAD", run);
    }

    private static void seedsModulo() {
        String words = "the SEED becomes (7919 times it, and 12345) modulo 65521";
        // 7919 * 65520 + 12345 is 7919 times 65521 and 4426; 39920 becomes 0, 27716 becomes 65520.
        int[][] pairs = {{0, 12345}, {65520, 4426}, {39920, 0}, {27716, 65520}, {1, 20264}, {52124, 1}};
        for (int[] pair : pairs) {
            edges.sentence(words, "laid o001;d013;", "seed " + pair[0] + " = 1", "load 0 0 1 = 1", "run 1 = 1", "count 8 = " + pair[1]);
            // The first look is at 1 and as many TICKS as it waits for; it sends two TICKS later.
            int sends = 3 + pair[1] % 8;
            edges.sentence("it WAITS for SEED modulo (2 to the EXPONENT) TICKS", "laid o001;d013;", "seed " + pair[0], "load 0 0 1",
                "run 1 = 1", "air 0 " + (sends - 1) + " = 0", "air 0 " + sends + " = 10", "air 0 " + (sends + 1) + " = 0");
        }
        edges.sentence("who has nothing to send draws nothing", "run 20 = 0", "count 8 = 1");
    }
}
