/** Compares answers with those that are due, and ends the test with exit code 1 if one was wrong. */
final class Check {
    private final String test;
    private String part = "";
    private int asked;
    private int wrong;

    Check(String test) {
        this.test = test;
    }

    /** Names the calls that follow. */
    void part(String name) {
        part = name;
    }

    void due(String call, int got, int want) {
        asked++;
        if (got != want) {
            wrong++;
            System.out.println(test + ", " + part + ": " + call + " answered " + got + ", due is " + want);
        }
    }

    void isTrue(String what, boolean holds) {
        due(what, holds ? 1 : 0, 1);
    }

    void end() {
        System.out.println(test + ": " + asked + " answers, " + wrong + " wrong");
        if (wrong != 0 || asked == 0) {
            System.exit(1);
        }
    }

    /** Writes a text behind what the object's text is. */
    static void write(PromisedSlots x, String text) {
        for (int i = 0; i < text.length(); i++) {
            x.write(text.charAt(i));
        }
    }

    /** A new object on which a text is laid. */
    static PromisedSlots laid(String text) {
        PromisedSlots x = new PromisedSlots();
        write(x, text);
        int answer = x.lay();
        if (answer < 1) {
            throw new IllegalStateException(text + " was not laid: " + answer);
        }
        return x;
    }
}
