import java.util.ArrayList;
import java.util.List;

/** The edges of promises 14 to 16: ask, release, promise, and of PROMISES that are idle, go and come up. */
public final class EdgesOfSlotsTest {
    private static final Edges edges = new Edges("EdgesOfSlotsTest");
    private static final String EIGHT = "d010;d010;d010;d010;d010;d010;d010;d010;";

    public static void main(String[] args) {
        askNumbers();
        leastForEach();
        leastWhenSome();
        wouldBeLeft();
        sevenPromises();
        askNo();
        askInOrder();
        rowOfSlots();
        releases();
        comeUp();
        comeUpIdle();
        promiseNumbers();
        promiseNone();
        lives();
        inARow();
        severalGo();
        goesAheadOfAll();
        idleWithoutHearing();
        edges.end();
    }

    private static void askNumbers() {
        edges.sentence("a PROMISE of n SLOTS (1 to 15): BAD", "laid o001;d010;", "ask 0 0 ! BAD 18", "ask 0 16 ! BAD 18",
            "ask 0 -1 ! BAD 18", "ask 0 LOW ! BAD 18", "ask 0 HIGH ! BAD 18", "ask 0 1 = 15", "release 0 = 1", "ask 0 15 = 1",
            "release 0 = 15", "ask 0 17 ! BAD 18");
        edges.sentence("A DEVICE asks: BAD (such as there are)", "ask -1 1 ! BAD 18", "ask 6 1 ! BAD 18", "ask LOW 1 ! BAD 18",
            "ask HIGH 1 ! BAD 18", "ask 5 1 = 15", "laid o001;d010;", "ask 1 1 ! BAD 18", "laid o001;" + EIGHT, "ask 8 1 ! BAD 18",
            "ask 7 1 = 15");
    }

    private static void leastForEach() {
        for (int least = 1; least <= 9; least++) {
            String laid = "laid o00" + least + ";d010;d010;";
            List<String> run = new ArrayList<>(List.of(laid, "count 6 = " + least));
            if (least > 1) {
                run.add("ask 0 " + (17 - least) + " ! FULL 17 3" + (least - 1));
            }
            run.addAll(List.of("ask 0 " + (16 - least) + " = " + least, "coordinator 0 2 = " + least, "ask 1 1 ! FULL 17 3" + (least - 1),
                "release 0"));
            run.addAll(List.of("ask 1 1 = 15", "ask 0 " + (16 - least) + " ! FULL 17 3" + (least - 1),
                "ask 0 " + (15 - least) + " = " + least));
            edges.sentence("SHARED; never fewer than LEAST. FULL: fewer than LEAST would be left", run);
        }
    }

    private static void leastWhenSome() {
        edges.sentence("each COORDINATOR has SLOTS of its own", "ask 0 8 = 8", "ask 1 1 ! FULL 17 37", "ask 3 8 = 8",
            "ask 4 1 ! FULL 17 37", "ask 5 8 = 8", "coordinator 0 2 = 8", "coordinator 1 2 = 8", "coordinator 2 2 = 8");
    }

    private static void wouldBeLeft() {
        edges.sentence("then 30 and how many would (below 0: 0)", "laid o001;d010;d010;", "ask 0 15 = 1", "ask 1 1 ! FULL 17 30",
            "ask 1 2 ! FULL 17 30", "ask 1 15 ! FULL 17 30", "release 0 = 15", "ask 0 14 = 2", "ask 1 2 ! FULL 17 30",
            "ask 1 3 ! FULL 17 30", "ask 1 1 = 1");
        edges.sentence("then 30 and how many would (below 0: 0), LEAST 9", "laid o009;d010;d010;", "ask 0 8 ! FULL 17 38",
            "ask 0 15 ! FULL 17 31", "ask 0 7 = 9", "ask 1 1 ! FULL 17 38", "ask 1 8 ! FULL 17 31", "ask 1 9 ! FULL 17 30",
            "ask 1 10 ! FULL 17 30", "ask 1 15 ! FULL 17 30");
    }

    private static void sevenPromises() {
        for (int least = 1; least <= 9; least += 8) {
            List<String> run = new ArrayList<>(List.of("laid o00" + least + ";" + EIGHT));
            for (int d = 0; d < 7; d++) {
                run.add("ask " + d + " 1 = " + (15 - d));
            }
            run.addAll(List.of("promise 0 -1 0 = 7", "coordinator 0 2 = 9", "ask 7 1 ! FULL 16", "ask 7 8 ! FULL 16",
                "ask 7 15 ! FULL 16"));
            run.addAll(List.of("ask 7 16 ! BAD 18", "ask 7 0 ! BAD 18", "ask 8 1 ! BAD 18", "ask 0 1 ! NO 15", "release 6 = 1",
                "ask 7 1 = 9", "ask 6 1 ! FULL 16"));
            edges.sentence("PROMISES .. 7 at most: FULL 16, ahead of 17", run);
        }
        edges.sentence("6 are not 7: 17 then", "laid o009;" + EIGHT, "ask 0 1", "ask 1 1", "ask 2 1", "ask 3 1", "ask 4 1", "ask 5 1 = 10",
            "ask 6 2 ! FULL 17 38", "ask 6 1 = 9", "ask 7 1 ! FULL 16");
    }

    private static void askNo() {
        edges.sentence("NO: it has one", "ask 0 1 = 15", "ask 0 1 ! NO 15", "ask 0 15 ! NO 15", "release 0 = 1", "ask 0 1 = 15");
        edges.sentence("NO: it is not on that LIST", "drop 0 = 1", "ask 0 1 ! NO 15", "join 0 0 = 0", "ask 0 1 = 15");
        edges.sentence("NO: it is an ORPHAN", "laid o001;d010;", "deafen 0 4", "run 3", "ask 0 1 = 15", "release 0 = 1", "run 1",
            "ask 0 1 ! NO 15", "scan 0 = 0", "ask 0 1 = 15");
        edges.sentence("NO: an ORPHAN that has one", "laid o001;d010;l9;", "ask 0 1 = 15", "deafen 0 4", "run 4", "ask 0 1 ! NO 15",
            "scan 0 = 0", "ask 0 1 ! NO 15");
        edges.sentence("asks the COORDINATOR at which it is HOMED", "join 0 2 = 0", "ask 0 2 = 14", "promise 2 0 0 = 0",
            "promise 0 -1 0 = 0");
    }

    private static void askInOrder() {
        edges.sentence("Of several the first in the order told: BAD, NO, FULL", "drop 0 = 1", "ask 0 16 ! BAD 18", "ask 0 0 ! BAD 18",
            "ask 0 9 ! NO 15", "ask 1 8 = 8", "ask 1 9 ! NO 15", "ask 2 9 ! FULL 17 30", "ask 1 16 ! BAD 18", "ask 6 9 ! BAD 18",
            "ask 0 1 ! NO 15");
    }

    private static void rowOfSlots() {
        edges.sentence("the first has the last ones of 16, each other one those right ahead of the one ahead of it", "laid o001;" + EIGHT,
            "ask 3 2 = 14", "ask 0 1 = 13", "ask 7 5 = 8", "ask 2 7 = 1", "promise 0 0 0 = 3", "promise 0 0 1 = 14", "promise 0 0 2 = 2",
            "promise 0 1 0 = 0", "promise 0 1 1 = 13", "promise 0 1 2 = 1", "promise 0 2 0 = 7", "promise 0 2 1 = 8", "promise 0 2 2 = 5",
            "promise 0 3 0 = 2", "promise 0 3 1 = 1", "promise 0 3 2 = 7", "coordinator 0 2 = 1");
        edges.sentence("What is left is SHARED: all 16", "coordinator 0 2 = 16", "ask 0 8 = 8", "coordinator 0 2 = 8", "release 0 = 8",
            "coordinator 0 2 = 16");
    }

    private static void releases() {
        edges.sentence("Its PROMISE goes: of how many SLOTS it was. BAD; NO", "laid o001;d010;d010;", "release -1 ! BAD", "release 2 ! BAD",
            "release LOW ! BAD", "release HIGH ! BAD", "release 0 ! NO", "ask 0 15 = 1", "release 1 ! NO", "release 0 = 15",
            "release 0 ! NO", "ask 1 1 = 15", "release 0 ! NO", "release 1 = 1", "promise 0 -1 0 = 0");
        edges.sentence("such as there are", "release 6 ! BAD", "release 5 ! NO", "ask 5 1 = 15", "release 5 = 1", "laid o001;" + EIGHT,
            "release 8 ! BAD", "release 7 ! NO", "ask 7 2 = 14", "release 7 = 2");
        edges.sentence("an ORPHAN lets go, too", "laid o001;d010;l9;", "ask 0 4 = 12", "deafen 0 4", "run 4", "release 0 = 4",
            "release 0 ! NO");
    }

    /** Of 7 PROMISES of 1, 2, 1, 2, .. SLOTS (the last one of 1) one goes: those behind it come up. */
    private static void comeUp() {
        int[] slots = {1, 2, 1, 2, 1, 2, 1};
        for (int gone = 0; gone < 7; gone++) {
            List<String> run = new ArrayList<>(List.of("laid o001;" + EIGHT + "l9;"));
            for (int d = 0; d < 7; d++) {
                run.add("ask " + d + " " + slots[d]);
            }
            run.addAll(List.of("coordinator 0 2 = 6", "release " + gone + " = " + slots[gone], "promise 0 -1 0 = 6"));
            int first = 16;
            int i = 0;
            for (int d = 0; d < 7; d++) {
                if (d != gone) {
                    first -= slots[d];
                    run.addAll(List.of("promise 0 " + i + " 0 = " + d, "promise 0 " + i + " 1 = " + first,
                        "promise 0 " + i + " 2 = " + slots[d]));
                    i++;
                }
            }
            run.addAll(List.of("promise 0 6 0 ! NONE", "coordinator 0 2 = " + first, "ask 7 1 = " + (first - 1), "promise 0 6 0 = 7"));
            edges.sentence("One that goes lets those behind it come up so", run);
        }
    }

    private static void comeUpIdle() {
        edges.sentence("One that goes lets those behind it come up, as IDLE as they were", "laid o001;d010;d010;d010;l9;", "ask 0 1 = 15",
            "run 2", "ask 1 1 = 14", "run 3", "ask 2 1 = 13", "run 1", "promise 0 0 3 = 6", "promise 0 1 3 = 4", "promise 0 2 3 = 1",
            "release 0 = 1", "promise 0 0 3 = 4", "promise 0 1 3 = 1", "release 1 = 1", "promise 0 0 3 = 1", "ask 0 1 = 14",
            "promise 0 1 3 = 0");
    }

    private static void promiseNumbers() {
        edges.sentence("Of the i-th PROMISE of a COORDINATOR: BAD", "ask 0 2 = 14", "promise -1 0 0 ! BAD", "promise 3 0 0 ! BAD",
            "promise LOW 0 0 ! BAD", "promise HIGH 0 0 ! BAD", "promise -1 -1 0 ! BAD", "promise 3 -1 0 ! BAD", "promise 0 0 0 = 0",
            "promise 2 -1 0 = 0");
        edges.sentence("how many PROMISES there are (i = -1). BAD (i below -1)", "ask 0 2 = 14", "promise 0 -2 0 ! BAD",
            "promise 0 LOW 0 ! BAD", "promise 0 -1 0 = 1", "promise 0 -1 3 = 1", "promise 1 -1 0 = 0", "promise 1 -2 0 ! BAD");
        edges.sentence("what = 0 to 3: BAD", "ask 0 2 = 14", "promise 0 0 -1 ! BAD", "promise 0 0 4 ! BAD", "promise 0 0 LOW ! BAD",
            "promise 0 0 HIGH ! BAD", "promise 0 0 0 = 0", "promise 0 0 1 = 14", "promise 0 0 2 = 2", "promise 0 0 3 = 0");
        edges.sentence("such as there are: one that is nested", "promise 3 -1 0 ! BAD", "nest 0 550 = 3", "promise 3 -1 0 = 0",
            "promise 4 -1 0 ! BAD");
    }

    private static void promiseNone() {
        edges.sentence("NONE: not so many", "promise 0 0 0 ! NONE", "promise 0 HIGH 0 ! NONE", "ask 2 1", "promise 0 0 0 = 2",
            "promise 0 1 0 ! NONE", "promise 1 0 0 ! NONE", "ask 1 1", "promise 0 1 0 = 1", "promise 0 2 3 ! NONE", "release 2",
            "promise 0 1 0 ! NONE", "promise 0 6 0 ! NONE", "promise 0 7 0 ! NONE");
        edges.sentence("Of several the first in the order told: BAD, NONE", "promise 0 0 4 ! BAD", "promise 0 HIGH -1 ! BAD",
            "promise 3 0 0 ! BAD", "promise 0 0 3 ! NONE");
        List<String> run = new ArrayList<>(List.of("laid o001;" + EIGHT));
        for (int d = 0; d < 7; d++) {
            run.addAll(List.of("promise 0 " + d + " 0 = NONE", "ask " + d + " 1", "promise 0 " + d + " 0 = " + d,
                "promise 0 -1 0 = " + (d + 1)));
        }
        run.addAll(List.of("promise 0 6 1 = 9", "promise 0 7 1 ! NONE", "promise 0 8 1 ! NONE"));
        edges.sentence("NONE: not so many, to the last one", run);
    }

    private static void lives() {
        for (int life = 1; life <= 9; life++) {
            List<String> run = new ArrayList<>(List.of("laid o001;d010;d010;l" + life + ";", "ask 0 2 = 14"));
            for (int i = 1; i <= life; i++) {
                run.addAll(List.of("run 1 = 0", "promise 0 -1 0 = 1", "promise 0 0 3 = " + i, "coordinator 0 2 = 14"));
            }
            run.addAll(List.of("run 1 = 0", "promise 0 -1 0 = 0", "coordinator 0 2 = 16", "release 0 ! NO", "ask 0 2 = 14",
                "promise 0 0 3 = 0"));
            edges.sentence("each PROMISE that has been IDLE for LIFE ACTIVE parts in a row goes", run);
        }
        edges.sentence("LIFE 4 without", "laid o001;d010;", "ask 0 2 = 14", "run 4", "promise 0 0 3 = 4", "run 1", "promise 0 -1 0 = 0");
    }

    private static void inARow() {
        for (int life = 1; life <= 9; life++) {
            List<String> run = new ArrayList<>(List.of("laid o001;d010;l" + life + ";", "ask 0 1 = 15", "load 0 1 3", "run 1 = 3"));
            if (life > 1) {
                run.addAll(List.of("run " + (life - 1) + " = 0", "promise 0 0 3 = " + (life - 1)));
            }
            // Used in its last ACTIVE part but one, it lives on; idle for LIFE it goes, though there are frames then.
            run.addAll(List.of("load 0 1 1", "run 1 = 1", "promise 0 0 3 = 0", "run " + life + " = 0", "promise 0 0 3 = " + life,
                "load 0 1 1 = 1", "run 1 = 0"));
            run.addAll(List.of("promise 0 -1 0 = 0", "device 0 4 = 1"));
            edges.sentence("IDLE in a row: if it sent any, the PROMISE is IDLE for 0, else for 1 more", run);
        }
    }

    private static void severalGo() {
        edges.sentence("first each PROMISE that has been IDLE goes: all of them", "laid o001;d010;d010;d010;l2;", "ask 0 1", "ask 1 2",
            "ask 2 3 = 10", "run 2", "promise 0 -1 0 = 3", "run 1", "promise 0 -1 0 = 0", "coordinator 0 2 = 16");
        edges.sentence("first each PROMISE that has been IDLE goes: the outer ones", "laid o001;d010;d010;d010;l2;", "ask 0 1", "ask 1 2",
            "ask 2 3 = 10", "load 1 1 99", "run 2 = 12", "promise 0 0 3 = 2", "promise 0 1 3 = 0", "promise 0 2 3 = 2", "run 1 = 6",
            "promise 0 -1 0 = 1", "promise 0 0 0 = 1", "promise 0 0 1 = 14", "air 0 42 = 11", "air 0 47 = 11", "air 0 41 = 0");
        edges.sentence("first each PROMISE that has been IDLE goes: the middle one", "laid o001;d010;d010;d010;l1;", "ask 0 1", "ask 1 2",
            "ask 2 3 = 10", "load 0 1 99", "load 2 1 99", "run 1 = 12", "run 1 = 12", "promise 0 -1 0 = 2", "promise 0 1 0 = 2",
            "promise 0 1 1 = 12", "air 0 36 = 12", "air 0 35 = 0", "air 0 44 = 12", "air 0 45 = 10");
        edges.sentence("those of the COORDINATOR whose BEACON it is, alone", "laid o101;c00048;d010;d110;l1;", "ask 0 1", "ask 1 1",
            "run 2", "promise 0 0 3 = 1", "promise 1 0 3 = 1", "run 1", "promise 0 -1 0 = 0", "promise 1 -1 0 = 1", "run 1",
            "promise 1 -1 0 = 0");
    }

    private static void goesAheadOfAll() {
        // With 15 SLOTS promised K is 3, and no frame fits; in the part in which the PROMISE goes all fit.
        edges.sentence("At its TICK 0 .. first each PROMISE .. goes: its SLOTS are SHARED in that part", "laid o001;d010;d010;l1;",
            "ask 1 15 = 1", "load 0 0 1", "run 1 = 0", "device 0 9 = 3", "coordinator 0 2 = 1", "run 1 = 1", "coordinator 0 2 = 16",
            "air 0 3 = 10");
    }

    private static void idleWithoutHearing() {
        edges.sentence("if its DEVICE HEARD the BEACON; else IDLE for 1 more", "laid o001;d010;l2;", "ask 0 1 = 15", "load 0 1 99",
            "run 1 = 3", "deafen 0 2", "run 1 = 0", "promise 0 0 3 = 1", "run 1 = 0", "promise 0 0 3 = 2", "run 1 = 0",
            "promise 0 -1 0 = 0");
        edges.sentence("DEAF for one part less than LIFE", "laid o001;d010;l2;", "ask 0 1 = 15", "load 0 1 99", "deafen 0 1", "run 1 = 0",
            "promise 0 0 3 = 1", "run 1 = 3", "promise 0 0 3 = 0");
    }
}
