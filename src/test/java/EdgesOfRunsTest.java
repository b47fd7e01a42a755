import java.util.ArrayList;
import java.util.List;

/** The edges of promise 17: run. What fits, what is given up, what is drawn, what is sent in promised SLOTS, and when. */
public final class EdgesOfRunsTest {
    private static final Edges edges = new Edges("EdgesOfRunsTest");

    public static void main(String[] args) {
        numbers();
        longestRun();
        whatFits();
        whatFitsInLongerSlots();
        framesOneBehindTheOther();
        justToTheEnd();
        waitsToTheEnd();
        heldDrawsOnceAPart();
        noFramesNoDraws();
        drawsByExponent();
        fiveLooks();
        looksKeptOverParts();
        exponentFiveAtMost();
        fourTries();
        triesBeginAnew();
        hurtBeginsAnew();
        twoOrMore();
        promisedFramesThatFit();
        promisedFramesToTheTick();
        promisedFramesThatThereAre();
        bothKindsAtOnce();
        nowAndBeacons();
        lastNumbers();
        edges.end();
    }

    private static void numbers() {
        edges.sentence("RUN of n (1 to 20) ACTIVE parts. BAD", "run 0 ! BAD", "run 21 ! BAD", "run -1 ! BAD", "run LOW ! BAD",
            "run HIGH ! BAD", "count 12 = 0", "run 1 = 0", "count 12 = 1", "run 20 = 0", "count 12 = 21", "run 21 ! BAD", "run 0 ! BAD");
    }

    private static void longestRun() {
        // 15 frames of 1 TICK go in an ACTIVE part of 48: looks at 1, 4, .. 43.
        edges.sentence("how many frames were SENT in them: of all parts, of all DEVICES", "laid o001;d010;", "load 0 0 99", "run 1 = 15",
            "run 2 = 30", "run 20 = 54", "run 20 = 0", "device 0 5 = 99", "device 0 3 = 0");
        edges.sentence("how many frames were SENT in them: of both kinds", "laid o101;c00048;d010;d110;d010;", "ask 2 5 = 11", "load 0 0 2",
            "load 1 0 3", "load 2 1 4", "run 2 = 9", "device 0 5 = 2", "device 1 5 = 3", "device 2 5 = 4");
    }

    /** E is 0, so that it looks at 1: LENGTH and 3 may be no more than K, which is 3 for each SHARED SLOT. */
    private static void whatFits() {
        for (int shared = 1; shared <= 4; shared++) {
            int k = 3 * shared;
            for (int length = 1; length <= 8; length++) {
                boolean fits = 1 + length + 2 <= k;
                List<String> run = new ArrayList<>(List.of("laid o001;d0" + length + "0;d010;", "ask 1 " + (16 - shared) + " = " + shared, "load 0 0 1"));
                run.addAll(List.of("run 1 = " + (fits ? 1 : 0), "device 0 9 = " + (fits ? 0 : 3), "device 0 3 = " + (fits ? 0 : 1),
                    "count 8 = 20264"));
                run.addAll(List.of("air 0 2 = 0", "air 0 3 = " + (fits ? 10 : 0), "air 0 " + (2 + length) + " = " + (fits ? 10 : 0),
                    "air 0 " + (3 + length) + " = 0"));
                edges.sentence("LOOKS .. now, if t, LENGTH and 2 together are no more than K; else it is HELD", run);
            }
        }
        // LENGTH 3 at K 6, LENGTH 6 at K 9: just so; LENGTH 4, LENGTH 7: one too long.
        edges.sentence("no more than K: just so", "laid o001;d030;d010;", "ask 1 14", "load 0 0 1", "run 1 = 1", "air 0 5 = 10",
            "air 0 6 = 0");
        edges.sentence("no more than K: one too long", "laid o001;d040;d010;", "ask 1 14", "load 0 0 1", "run 1 = 0", "device 0 9 = 3",
            "air 0 3 = 0");
        edges.sentence("no more than K: just so", "laid o001;d060;d010;", "ask 1 13", "load 0 0 1", "run 1 = 1", "air 0 8 = 10",
            "air 0 9 = 0");
        edges.sentence("no more than K: one too long", "laid o001;d070;d010;", "ask 1 13", "load 0 0 1", "run 1 = 0", "device 0 9 = 3");
        edges.sentence("K 3: nothing fits", "laid o001;d010;d010;", "ask 1 15", "load 0 0 1", "run 1 = 0", "device 0 9 = 3");
    }

    private static void whatFitsInLongerSlots() {
        // One SHARED SLOT of 6, 12, 24 TICKS.
        for (int length = 1; length <= 8; length++) {
            edges.sentence("K being SHARED SLOTS: 6 TICKS", "laid o111;d0" + length + "0;d010;", "ask 1 15 = 1", "load 0 0 1",
                "run 1 = " + (length <= 3 ? 1 : 0));
            edges.sentence("K being SHARED SLOTS: 12 TICKS", "laid o221;d0" + length + "0;d010;", "ask 1 15 = 1", "load 0 0 1",
                "run 1 = 1");
            edges.sentence("K being SHARED SLOTS: 24 TICKS", "laid o331;d0" + length + "0;d010;", "ask 1 15 = 1", "load 0 0 9",
                "run 1 = " + 23 / (length + 2));
        }
    }

    /** E is 0: a frame takes two looks and LENGTH TICKS, so that so many go from 1 on till K. */
    private static void framesOneBehindTheOther() {
        int[][] ofLength = {{15, 31, 63, 99}, {11, 23, 47, 95}, {9, 19, 38, 76}, {7, 15, 31, 63}, {6, 13, 27, 54}, {5, 11, 23, 47}, {5, 10, 21, 42}, {4, 9, 19, 38}};
        for (int length = 1; length <= 8; length++) {
            for (int s = 0; s <= 3; s++) {
                int most = ofLength[length - 1][s];
                // All are gone, or the last one ends with K, so that there is no TICK in which to begin another.
                boolean restsAtTheEnd = most == 99 || length == 3 && s == 1;
                edges.sentence("frames one behind the other", "laid o" + s + s + "1;d0" + length + "0;", "load 0 0 99", "run 1 = " + most,
                    "device 0 3 = " + (99 - most), "device 0 9 = " + (restsAtTheEnd ? 0 : 3));
            }
        }
    }

    private static void justToTheEnd() {
        // K is 96: 19 frames of 5 TICKS each, looks counted, from 1 on; the last one looks at 91 and sends from 93 to 95.
        edges.sentence("TICKS t from 1 on to less than K: the last of them", "laid o111;d030;", "load 0 0 20", "run 1 = 19", "air 0 92 = 0",
            "air 0 93 = 10", "air 0 95 = 10", "device 0 9 = 0", "device 0 3 = 1", "count 8 = 45640");
        // K is 90: the 17th frame sends from 83 to 85, the 18th would look at 86.
        edges.sentence("TICKS t from 1 on to less than K: a SLOT less", "laid o111;d030;d010;", "ask 1 1 = 15", "load 0 0 20", "run 1 = 17",
            "air 0 85 = 10", "air 0 86 = 0", "device 0 9 = 3", "device 0 3 = 3");
    }

    private static void waitsToTheEnd() {
        // K is 6. 28183 % 8 is 7: it still waits at 5. 28996 % 8 is 4: at 5 its frame fits no more.
        edges.sentence("Behind TICK K less 1 who WAITS or LOOKS is HELD", "laid o001;d013;d010;", "ask 1 14 = 2", "seed 2", "load 0 0 1",
            "run 1 = 0", "device 0 9 = 3", "device 0 10 = 3", "device 0 11 = 0", "device 0 12 = 0", "device 0 3 = 1", "count 8 = 28183",
            "run 1 = 0", "device 0 9 = 3", "count 8 = 28996");
        // 5 becomes 51940, % 8 is 4: it looks at 5. With K 9 a frame of 2 is just so, one of 3 too long.
        edges.sentence("t, LENGTH and 2 are just K, at another t", "laid o001;d023;d010;", "ask 1 13 = 3", "seed 5", "load 0 0 1",
            "run 1 = 1", "air 0 7 = 10", "air 0 8 = 10", "air 0 6 = 0");
        edges.sentence("t, LENGTH and 2 are one more than K, at another t", "laid o001;d033;d010;", "ask 1 13 = 3", "seed 5", "load 0 0 1",
            "run 1 = 0", "device 0 9 = 3");
    }

    private static void heldDrawsOnceAPart() {
        edges.sentence("at t = 1 who is HELD DRAWS (at others who is HELD stays so)", "laid o001;d080;d010;", "ask 1 14 = 2", "load 0 0 1",
            "run 1 = 0", "count 8 = 20264", "run 1 = 0", "count 8 = 22032", "run 1 = 0", "count 8 = 1330", "device 0 9 = 3", "run 1 = 0",
            "count 8 = 61255", "release 1 = 14", "run 1 = 1", "count 8 = 38727", "air 0 3 = 10", "device 0 9 = 0");
        edges.sentence("who is HELD and does not hear stays so", "laid o001;d080;d010;l9;", "ask 1 14 = 2", "load 0 0 1", "run 1 = 0",
            "deafen 0 2", "run 2 = 0", "count 8 = 20264", "device 0 9 = 3", "run 1", "count 8 = 22032");
    }

    private static void noFramesNoDraws() {
        edges.sentence("who RESTS and has frames to CONTEND begins: with none it does not", "laid o001;d013;", "load 0 1 9", "run 5 = 0",
            "count 8 = 1", "device 0 9 = 0", "load 0 0 0 = 0", "run 1 = 0", "count 8 = 1", "load 0 0 1 = 1", "run 1 = 1", "count 8 = 20264",
            "run 1 = 0", "count 8 = 20264");
    }

    private static void drawsByExponent() {
        // 27716 becomes 65520, 52124 becomes 1, 5 becomes 51940, 2 becomes 28183, 65520 becomes 4426.
        int[][] seedAndWaits = {{27716, 0, 0, 0, 0}, {52124, 0, 1, 1, 1}, {5, 0, 0, 0, 4}, {2, 0, 1, 3, 7}, {65520, 0, 0, 2, 2}};
        for (int[] each : seedAndWaits) {
            for (int e = 0; e <= 3; e++) {
                int sends = 3 + each[1 + e];
                edges.sentence("it WAITS for SEED modulo (2 to the EXPONENT) TICKS", "laid o001;d01" + e + ";", "seed " + each[0],
                    "load 0 0 1", "run 1 = 1", "air 0 " + (sends - 1) + " = 0", "air 0 " + sends + " = 10", "air 0 " + (sends + 1) + " = 0",
                    "device 0 10 = " + e);
            }
        }
    }

    private static void fiveLooks() {
        // Device 0 sends from 3 to 10. Device 1 looks at 2, then BUSY at 3, 5, 7, 10: it draws 26 then, looks at 37 and 38.
        edges.sentence("if LOOKS are 5, the frame is given UP: 4 are not", "laid o001;d080;d011;", "seed 54", "load 0 0 1", "load 1 0 1",
            "run 1 = 2", "device 1 11 = 4", "device 1 10 = 5", "device 1 6 = 0", "device 1 5 = 1", "device 1 9 = 0", "air 0 39 = 11",
            "air 0 38 = 0", "air 0 40 = 0", "count 8 = 36026");
        // It looks at 2, then BUSY at 3, 4, 5, 8, 9.
        edges.sentence("if LOOKS are 5, the frame is given UP: it is gone, it RESTS", "laid o001;d080;d011;", "seed 2443", "load 0 0 1",
            "load 1 0 1", "run 1 = 1", "device 1 11 = 5", "device 1 6 = 1", "device 1 5 = 0", "device 1 3 = 0", "device 1 9 = 0",
            "device 1 12 = 0", "device 1 13 = 0", "count 8 = 51616");
        // With one frame more it begins anew at 10: LOOKS 0, EXPONENT E.
        edges.sentence("given UP, the next frame begins anew", "laid o001;d080;d011;", "seed 2443", "load 0 0 1", "load 1 0 2", "run 1 = 2",
            "device 1 6 = 1", "device 1 5 = 1", "device 1 3 = 0");
    }

    private static void looksKeptOverParts() {
        // K is 12. BUSY at 3, 5, 6, 9, and it still waits at 11; in the next part it draws 5 and looks at 6, BUSY for the fifth time.
        edges.sentence("HELD (LOOKS, EXPONENT, TRIES as they are): the fifth in the next part", "laid o001;d080;d011;d010;", "ask 2 12 = 4",
            "seed 16", "load 0 0 2", "load 1 0 1", "run 1 = 1", "device 1 9 = 3", "device 1 11 = 4", "device 1 10 = 5", "device 0 9 = 3",
            "device 0 11 = 0", "count 8 = 52189", "run 1 = 1", "device 1 9 = 0", "device 1 11 = 5", "device 1 6 = 1", "device 1 3 = 0",
            "count 8 = 14277");
    }

    private static void exponentFiveAtMost() {
        // BUSY at 3 (EXPONENT 4), 4 (5), 10 (5): 45737 % 32 is 9, % 64 would be 41.
        edges.sentence("its EXPONENT 1 more (5 at most)", "laid o001;d080;d013;", "seed 55", "load 0 0 1", "load 1 0 1", "run 1 = 2",
            "device 1 10 = 5", "device 1 11 = 3", "air 0 22 = 11", "air 0 21 = 0", "count 8 = 45737");
        // BUSY at 3 (4), 6 (5), 7 (5), 10 (5): 13239 % 32 is 23, so that it looks at 34.
        edges.sentence("its EXPONENT 1 more (5 at most), four times", "laid o001;d080;d013;", "seed 1534", "load 0 0 1", "load 1 0 1",
            "run 1 = 2", "device 1 10 = 5", "device 1 11 = 4", "air 0 36 = 11", "count 8 = 13239");
    }

    /** K is 6: one frame a part, and as both look at 1, both are HURT. */
    private static void fourTries() {
        edges.sentence("TRIES are 1 more, and if these are 4, the frame is given UP", "laid o001;d010;d010;d010;l9;", "ask 2 14 = 2",
            "load 0 0 2", "load 1 0 1", "run 1 = 0", "device 0 12 = 1", "device 0 13 = 1", "run 2 = 0", "device 0 12 = 3", "device 0 6 = 0",
            "device 0 3 = 2", "device 0 9 = 3", "device 1 12 = 3", "run 1 = 0", "device 0 12 = 0", "device 0 6 = 1", "device 0 3 = 1",
            "device 0 13 = 4", "device 1 12 = 0", "device 1 6 = 1", "device 1 3 = 0", "device 1 9 = 0", "run 1 = 1", "device 0 5 = 1",
            "device 0 13 = 4");
    }

    private static void triesBeginAnew() {
        edges.sentence("if it is not HURT, it is SENT, TRIES are 0", "laid o001;d010;d010;d010;l9;", "ask 2 14 = 2", "load 0 0 2",
            "load 1 0 2", "run 3 = 0", "device 0 12 = 3", "deafen 1 1", "run 1 = 1", "device 0 12 = 0", "device 0 5 = 1", "device 1 12 = 3",
            "run 1 = 0", "device 0 12 = 1", "device 0 6 = 0", "device 1 12 = 0", "device 1 6 = 1");
    }

    private static void hurtBeginsAnew() {
        // Both send at 3. Device 1 finds 4, 6, 9 BUSY (LOOKS 3), both send at 13, and it finds 14, 15, 20, 27 BUSY: 4 since then, not 7.
        edges.sentence("else it begins anew as in (a) (LOOKS 0, EXPONENT E, it DRAWS)", "laid o001;d080;d011;", "seed 7", "load 0 0 1",
            "load 1 0 1", "run 1 = 1", "air 0 3 = 2", "air 0 4 = 10", "air 0 13 = 2", "air 0 14 = 10", "air 0 23 = 10", "air 0 30 = 10",
            "air 0 31 = 0", "device 1 11 = 4", "device 1 10 = 5", "device 1 12 = 2", "device 1 13 = 2", "device 1 6 = 0", "device 1 9 = 3",
            "count 8 = 39263");
    }

    private static void twoOrMore() {
        for (int many = 1; many <= 8; many++) {
            List<String> run = new ArrayList<>(List.of("laid o001;" + "d010;".repeat(many)));
            for (int d = 0; d < many; d++) {
                run.add("load " + d + " 0 1");
            }
            run.addAll(List.of("run 1 = " + (many == 1 ? 1 : 0), "air 0 3 = " + (many == 1 ? 10 : 2), "air 0 4 = 0",
                "device 0 13 = " + (many == 1 ? 0 : 4)));
            run.addAll(List.of("device " + (many - 1) + " 6 = " + (many == 1 ? 0 : 1), "air 0 12 = " + (many == 1 ? 0 : 2),
                "air 0 15 = 0"));
            edges.sentence("The air is BUSY, if one SENDS; if two or more do, these frames are HURT", run);
        }
        // Device 1's one TICK is over when device 0 still sends: device 0 is HURT all the same, device 1 sees it BUSY.
        edges.sentence("HURT by one TICK of three", "laid o001;d030;d010;", "seed 327", "load 0 0 1", "load 1 0 1", "run 1 = 2",
            "air 0 3 = 2", "air 0 4 = 10", "air 0 5 = 10", "device 0 13 = 1", "device 1 13 = 1");
    }

    private static void promisedFramesThatFit() {
        int[] slot = {3, 6, 12, 24};
        for (int s = 0; s <= 3; s++) {
            for (int n = 1; n <= 15; n++) {
                for (int length = 1; length <= 8; length++) {
                    int fit = Math.min(99, n * slot[s] / length);
                    int from = (16 - n) * slot[s];
                    int behind = from + fit * length;
                    List<String> run = new ArrayList<>(List.of("laid o" + s + s + "1;d0" + length + "0;", "ask 0 " + n + " = " + (16 - n), "load 0 1 99"));
                    run.addAll(List.of("run 1 = " + fit, "promise 0 0 3 = " + (fit == 0 ? 1 : 0), "device 0 4 = " + (99 - fit),
                        "device 0 5 = " + fit));
                    run.addAll(List.of("air 0 " + (from - 1) + " = 0", "air 0 " + from + " = " + (fit == 0 ? 0 : 10)));
                    if (fit > 0) {
                        run.add("air 0 " + (behind - 1) + " = 10");
                    }
                    run.add("air 0 " + behind + " = " + (behind == 16 * slot[s] ? "BAD" : "0"));
                    edges.sentence("it sends as many of them as fit wholly in its SLOTS", run);
                }
            }
        }
    }

    private static void promisedFramesToTheTick() {
        edges.sentence("fit wholly: a frame of 3 in 3 TICKS", "laid o001;d030;", "ask 0 1 = 15", "load 0 1 2", "run 1 = 1", "air 0 44 = 0",
            "air 0 45 = 10", "air 0 47 = 10", "promise 0 0 3 = 0");
        edges.sentence("fit wholly: a frame of 4 in 3 TICKS does not", "laid o001;d040;", "ask 0 1 = 15", "load 0 1 2", "run 1 = 0",
            "air 0 45 = 0", "promise 0 0 3 = 1", "device 0 4 = 2");
        edges.sentence("fit wholly: two of 3 in 6 TICKS, the third not", "laid o001;d030;", "ask 0 2 = 14", "load 0 1 3", "run 1 = 2",
            "air 0 42 = 10", "air 0 47 = 10", "device 0 4 = 1");
        edges.sentence("the SLOTS of the one behind are not its own", "laid o001;d040;d010;", "ask 1 1 = 15", "ask 0 1 = 14", "load 0 1 1",
            "load 1 1 1", "run 1 = 1", "air 0 42 = 0", "air 0 45 = 11", "air 0 46 = 0");
    }

    private static void promisedFramesThatThereAre() {
        edges.sentence("has frames to be PROMISED: as many as there are", "laid o001;d010;", "ask 0 2 = 14", "load 0 1 5 = 5", "run 1 = 5",
            "device 0 4 = 0", "air 0 42 = 10", "air 0 46 = 10", "air 0 47 = 0", "run 1 = 0", "promise 0 0 3 = 1", "air 0 42 = 0",
            "load 0 1 6 = 6", "run 1 = 6", "air 0 47 = 10", "promise 0 0 3 = 0");
        edges.sentence("99 of 360 that would fit", "laid o331;d010;", "ask 0 15 = 1", "load 0 1 99 = 99", "run 1 = 99", "device 0 4 = 0",
            "air 0 24 = 10", "air 0 122 = 10", "air 0 123 = 0");
        edges.sentence("frames to CONTEND do not go in promised SLOTS", "laid o001;d080;", "ask 0 15 = 1", "load 0 0 9", "run 1 = 0",
            "device 0 3 = 9", "promise 0 0 3 = 1", "device 0 9 = 3");
    }

    private static void bothKindsAtOnce() {
        // K is 6: the contended frame ends at 5, the promised ones begin at 6.
        edges.sentence("SHARED SLOTS end where the promised ones begin", "laid o001;d030;", "ask 0 14 = 2", "load 0 0 1", "load 0 1 14",
            "run 1 = 15", "air 0 2 = 0", "air 0 3 = 10", "air 0 5 = 10", "air 0 6 = 10", "air 0 47 = 10", "device 0 5 = 15",
            "device 0 3 = 0", "device 0 4 = 0");
    }

    private static void nowAndBeacons() {
        edges.sentence("NOW is the TICK behind the last ACTIVE part that went (0 at first)", "count 2 = 0", "run 1", "count 2 = 96",
            "run 1", "count 2 = 288", "run 1", "count 2 = 496", "run 1", "count 2 = 864", "coordinator 0 4 = 1536",
            "coordinator 1 4 = 960");
        edges.sentence("ACTIVE parts with no quiet between them", "laid o331;d010;", "run 1", "count 2 = 384", "coordinator 0 4 = 384",
            "run 20", "count 2 = 8064");
    }

    /** Almost all of the 512 calls with 20 ACTIVE parts each, the longest BEAT: about the last TICKS that an object can come to. */
    private static void lastNumbers() {
        List<String> run = new ArrayList<>(List.of("laid o531;d010;"));
        for (int i = 0; i < 490; i++) {
            run.add("run 20 = 0");
        }
        int parts = 490 * 20;
        run.addAll(List.of("count 12 = " + parts, "count 2 = " + ((parts - 1) * 1536 + 384), "coordinator 0 5 = " + parts,
            "coordinator 0 4 = " + parts * 1536));
        run.add("nest 0 384 = 1");
        run.add("coordinator 1 4 = " + ((parts - 1) * 1536 + 384));
        edges.sentence("TICKS go on from 0", run);
    }
}
