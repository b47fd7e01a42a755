import java.util.ArrayList;
import java.util.List;
import java.util.Set;

/**
 * Tests of single sentences of the document, each told as a run of calls on a new object. A line of such a run is
 * <pre>
 *   laid TEXT                  the text is wiped, written and laid
 *   text TEXT                  the letters are written behind the text
 *   NAME NUMBERS               a call, whatever it answers
 *   NAME NUMBERS = ANSWER      a call that answers so
 *   NAME NUMBERS ! ANSWER CAUSES   a call that is refused so: nothing else changes, but for the causes of a call that has some
 * </pre>
 * Numbers may be LOW and HIGH (the lowest and the highest int) and BAD, NO, FULL, NONE. No object is asked more than 512 times.
 */
final class Edges {
    private static final int MOST_CALLS = 512;
    private static final int LONGEST_PART = 384;
    private static final Set<String> WITH_CAUSES = Set.of("fault", "lay", "nest", "ask");

    private final Check check;

    Edges(String test) {
        check = new Check(test);
    }

    /** A sentence of the document, and a run of calls that would answer otherwise if it did not hold. */
    void sentence(String words, String... run) {
        check.part(words);
        Trial trial = new Trial();
        for (String line : run) {
            step(trial, line);
        }
    }

    void sentence(String words, List<String> run) {
        sentence(words, run.toArray(new String[0]));
    }

    /** Two runs that leave objects alike: all that can be told of them is the same (but for the text and the causes). */
    void alike(String words, List<String> run, List<String> other) {
        check.part(words);
        List<Call> state = stateReadings();
        state.removeIf(reading -> reading.name.equals("cause") || reading.is("count 9") || reading.is("count 10"));
        compare("what is told, ", calls(run), calls(other), state);
        compare("later, ", calls(run), calls(other), laterReadings());
    }

    void end() {
        check.end();
    }

    private void step(Trial trial, String line) {
        int mark = Math.max(line.indexOf(" = "), line.indexOf(" ! "));
        if (mark < 0 || isText(line)) {
            for (Call call : expand(line)) {
                int answer = trial.make(call);
                check.isTrue(line + ": " + call, !isText(line) || answer >= 0);
            }
        } else if (line.charAt(mark + 1) == '=') {
            Call call = Call.of(line.substring(0, mark));
            check.due(trial.done.size() + ". " + call, trial.make(call), number(line.substring(mark + 3)));
        } else {
            Call call = Call.of(line.substring(0, mark));
            String[] want = line.substring(mark + 3).split(" ");
            List<Call> before = new ArrayList<>(trial.done);
            check.due(before.size() + ". " + call, trial.make(call), number(want[0]));
            causesAre(before, call, want);
            leavesAll(before, call);
        }
        check.isTrue("no more than 512 calls", trial.done.size() <= MOST_CALLS);
    }

    private static boolean isText(String line) {
        return line.startsWith("laid ") || line.startsWith("text ");
    }

    private static List<Call> calls(List<String> run) {
        List<Call> calls = new ArrayList<>();
        for (String line : run) {
            calls.addAll(expand(line));
        }
        return calls;
    }

    private static List<Call> expand(String line) {
        if (!isText(line)) {
            return List.of(Call.of(line));
        }
        List<Call> calls = new ArrayList<>();
        boolean laid = line.startsWith("laid ");
        if (laid) {
            calls.add(Call.of("wipe"));
        }
        for (char letter : line.substring(5).toCharArray()) {
            calls.add(Call.of("write " + (int) letter));
        }
        if (laid) {
            calls.add(Call.of("lay"));
        }
        return calls;
    }

    private static int number(String word) {
        switch (word) {
            case "LOW": return Integer.MIN_VALUE;
            case "HIGH": return Integer.MAX_VALUE;
            case "BAD": return -1;
            case "NO": return -2;
            case "FULL": return -3;
            case "NONE": return -4;
            default: return Integer.parseInt(word);
        }
    }

    /** The causes behind a refusal are those that are told with it; a call that has none must have none told. */
    private void causesAre(List<Call> before, Call call, String[] want) {
        if (!WITH_CAUSES.contains(call.name)) {
            check.due(call + " tells no causes", want.length, 1);
            return;
        }
        PromisedSlots x = replay(before);
        call.on(x);
        check.due(call + ": causes", x.count(9), want.length - 1);
        for (int i = 1; i < want.length; i++) {
            check.due(call + ": cause " + (i - 1), x.cause(i - 1), number(want[i]));
        }
        check.due(call + ": no more causes", x.cause(want.length - 1), PromisedSlots.NONE);
    }

    private void leavesAll(List<Call> before, Call refused) {
        List<Call> with = new ArrayList<>(before);
        with.add(refused);
        List<Call> state = stateReadings();
        if (WITH_CAUSES.contains(refused.name)) {
            state.removeIf(reading -> reading.name.equals("cause") || reading.is("count 9"));
        }
        compare(refused + " leaves ", with, before, state);
        compare(refused + " leaves, later, ", with, before, laterReadings());
    }

    /** The readings are made in turn on two objects; new ones take their places when they have been asked often enough. */
    private void compare(String what, List<Call> run, List<Call> other, List<Call> readings) {
        int most = MOST_CALLS - Math.max(run.size(), other.size());
        check.isTrue("room for readings", most > 0);
        for (int from = 0; from < readings.size() && most > 0; from += most) {
            PromisedSlots x = replay(run);
            PromisedSlots y = replay(other);
            for (int i = from; i < readings.size() && i < from + most; i++) {
                Call reading = readings.get(i);
                check.due(what + reading, reading.on(x), reading.on(y));
            }
        }
    }

    private static PromisedSlots replay(List<Call> calls) {
        PromisedSlots x = new PromisedSlots();
        for (Call call : calls) {
            call.on(x);
        }
        return x;
    }

    /** All calls that only tell. */
    private static List<Call> stateReadings() {
        List<Call> all = new ArrayList<>();
        for (int what = 0; what < 13; what++) {
            all.add(new Call("count", what));
        }
        for (int i = 0; i < 4; i++) {
            all.add(new Call("cause", i));
        }
        for (int d = 0; d < 8; d++) {
            for (int what = 0; what < 14; what++) {
                all.add(new Call("device", d, what));
            }
        }
        for (int c = 0; c < 4; c++) {
            coordinatorReadings(all, c);
        }
        return all;
    }

    private static void coordinatorReadings(List<Call> all, int c) {
        for (int what = 0; what < 6; what++) {
            all.add(new Call("coordinator", c, what));
        }
        for (int i = -1; i < 7; i++) {
            for (int what = 0; what < 4; what++) {
                all.add(new Call("promise", c, i, what));
            }
        }
        for (int t = 0; t < LONGEST_PART; t++) {
            all.add(new Call("air", c, t));
        }
    }

    /** What comes of what cannot be told: the text's letters, and how devices go on. */
    private static List<Call> laterReadings() {
        List<Call> all = new ArrayList<>();
        all.add(Call.of("fault"));
        for (int i = 0; i < 4; i++) {
            all.add(new Call("cause", i));
        }
        for (int i = 0; i < 3; i++) {
            all.add(Call.of("run 1"));
            all.add(Call.of("count 8"));
        }
        return all;
    }

    /** An object, and the calls that were made on it. */
    private static final class Trial {
        final PromisedSlots x = new PromisedSlots();
        final List<Call> done = new ArrayList<>();

        int make(Call call) {
            done.add(call);
            return call.on(x);
        }
    }

    private static final class Call {
        final String name;
        final int[] numbers;
        private final String form;

        Call(String name, int... numbers) {
            this.name = name;
            this.numbers = numbers;
            form = name + " " + numbers.length;
        }

        static Call of(String line) {
            String[] words = line.split(" ");
            int[] numbers = new int[words.length - 1];
            for (int i = 0; i < numbers.length; i++) {
                numbers[i] = number(words[i + 1]);
            }
            return new Call(words[0], numbers);
        }

        boolean is(String line) {
            return toString().equals(line);
        }

        @Override
        public String toString() {
            StringBuilder line = new StringBuilder(name);
            for (int n : numbers) {
                line.append(' ').append(n);
            }
            return line.toString();
        }

        int on(PromisedSlots x) {
            int[] n = numbers;
            switch (form) {
                case "write 1": return x.write(n[0]);
                case "wipe 0": return x.wipe();
                case "fault 0": return x.fault();
                case "lay 0": return x.lay();
                case "cause 1": return x.cause(n[0]);
                case "nest 2": return x.nest(n[0], n[1]);
                case "seed 1": return x.seed(n[0]);
                case "join 2": return x.join(n[0], n[1]);
                case "drop 1": return x.drop(n[0]);
                case "load 3": return x.load(n[0], n[1], n[2]);
                case "deafen 2": return x.deafen(n[0], n[1]);
                case "scan 1": return x.scan(n[0]);
                case "ask 2": return x.ask(n[0], n[1]);
                case "release 1": return x.release(n[0]);
                case "promise 3": return x.promise(n[0], n[1], n[2]);
                case "run 1": return x.run(n[0]);
                case "air 2": return x.air(n[0], n[1]);
                case "coordinator 2": return x.coordinator(n[0], n[1]);
                case "device 2": return x.device(n[0], n[1]);
                case "count 1": return x.count(n[0]);
                default: throw new IllegalArgumentException(this + " is no call");
            }
        }
    }
}
