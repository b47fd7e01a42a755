import java.util.Arrays;

/** Superframes with promised slots. The document ../shared/DOC.md tells what each call promises. */
public final class PromisedSlots {
    public static final int BAD = -1, NO = -2, FULL = -3, NONE = -4;

    private static final int MOST_COORDINATORS = 4;
    private static final int MOST_DEVICES = 8;
    private static final int MOST_LETTERS = 200;
    private static final int MOST_PROMISES = 7;
    private static final int MOST_FRAMES = 99;
    private static final int MOST_DEAF = 9;
    private static final int MOST_PARTS_A_RUN = 20;
    private static final int SLOTS = 16;
    private static final int LONGEST_PART = 384;
    private static final int SEEDS = 65521;
    private static final int FIRST_SEED = 1;
    private static final String FIRST_TEXT = "o418;d023;d012;d031;c00192;d123;d112;c00400;d221;l3;";

    private static final int MOST_CAUSES = 3;
    private static final int CAUSE_FAULT = 1;
    private static final int CAUSE_NO_DEVICE = 2;
    private static final int CAUSE_LETTER = 10;
    private static final int CAUSE_FIGURE = 11;
    private static final int CAUSE_NUMBER = 12;
    private static final int CAUSE_CLASH = 13;
    private static final int CAUSE_MOST_COORDINATORS = 14;
    private static final int CAUSE_NOT_NOW = 15;
    private static final int CAUSE_MOST_PROMISES = 16;
    private static final int CAUSE_LEAST = 17;
    private static final int CAUSE_BAD = 18;
    private static final int CAUSE_CLASH_WITH = 20;
    private static final int CAUSE_WOULD_BE_LEFT = 30;

    private static final int AIR_BEACON = 1;
    private static final int AIR_SEVERAL = 2;
    private static final int AIR_DEVICE = 10;

    private static final int RESTS = 0;
    private static final int WAITS = 1;
    private static final int LOOKS = 2;
    private static final int HELD = 3;
    private static final int SENDS = 4;

    private final Row letters;
    private final Reader reader;
    private final Row causes;
    private final Coordinator[] coordinators;
    private final Device[] devices;
    private final Contention contention;
    private Layout laid;
    private Layout spare;
    private int now;
    private int partsGone;

    public PromisedSlots() {
        letters = new Row(MOST_LETTERS);
        reader = new Reader(letters);
        causes = new Row(MOST_CAUSES);
        laid = new Layout();
        spare = new Layout();
        coordinators = new Coordinator[MOST_COORDINATORS];
        for (int c = 0; c < coordinators.length; c++) {
            coordinators[c] = new Coordinator();
        }
        devices = new Device[MOST_DEVICES];
        for (int d = 0; d < devices.length; d++) {
            devices[d] = new Device(d);
        }
        contention = new Contention(devices);
        for (int i = 0; i < FIRST_TEXT.length(); i++) {
            letters.append(FIRST_TEXT.charAt(i));
        }
        reader.readInto(spare);
        takeLayout();
        letters.clear();
    }

    // ---- told

    public int write(int letter) {
        if (letter < 32 || letter > 126) {
            return BAD;
        }
        return letters.append(letter) ? letters.size : FULL;
    }

    public int wipe() {
        int before = letters.size;
        letters.clear();
        return before;
    }

    public int fault() {
        causes.clear();
        return faultOfText();
    }

    public int lay() {
        causes.clear();
        if (faultOfText() != NONE) {
            return NO;
        }
        if (spare.deviceCount == 0) {
            causes.append(CAUSE_NO_DEVICE);
            return NO;
        }
        takeLayout();
        return laid.deviceCount;
    }

    public int cause(int i) {
        return i < 0 ? BAD : causes.at(i);
    }

    public int nest(int parent, int offset) {
        causes.clear();
        if (coordinatorAt(parent) == null || offset < 0 || offset >= laid.beat) {
            causes.append(CAUSE_BAD);
            return BAD;
        }
        if (laid.coordinatorCount >= MOST_COORDINATORS) {
            causes.append(CAUSE_MOST_COORDINATORS);
            return FULL;
        }
        int start = laid.startBehind(parent, offset);
        int clash = laid.clashOf(start);
        if (clash != NONE) {
            causes.append(CAUSE_CLASH);
            causes.append(CAUSE_CLASH_WITH + clash);
            return NO;
        }
        int c = laid.coordinatorCount;
        laid.addCoordinator(parent, start);
        Coordinator added = coordinatorAt(c);
        if (added != null) {
            added.layAt(parent, start, laid.firstBeacon(start, now));
        }
        return c;
    }

    public int seed(int z) {
        if (z < 0 || z >= SEEDS) {
            return BAD;
        }
        int before = contention.seed;
        contention.seed = z;
        return before;
    }

    // ---- devices

    public int join(int d, int c) {
        Device who = deviceAt(d);
        Coordinator where = coordinatorAt(c);
        if (who == null || where == null) {
            return BAD;
        }
        if (who.home == c && where.lists(d)) {
            return NO;
        }
        for (int i = 0; i < coordinators.length; i++) {
            if (i != c) {
                coordinators[i].forget(d);
            }
        }
        where.enlist(d);
        int before = who.home;
        who.comeHome(c);
        return before;
    }

    public int drop(int d) {
        if (deviceAt(d) == null) {
            return BAD;
        }
        int lists = 0;
        for (int i = 0; i < coordinators.length; i++) {
            if (coordinators[i].lists(d)) {
                lists++;
            }
            coordinators[i].forget(d);
        }
        return lists;
    }

    public int load(int d, int kind, int many) {
        Device who = deviceAt(d);
        if (who == null || kind < 0 || kind > 1 || many < 0 || many > MOST_FRAMES) {
            return BAD;
        }
        int frames = many + (kind == 0 ? who.toContend : who.toBePromised);
        if (frames > MOST_FRAMES) {
            return FULL;
        }
        if (kind == 0) {
            who.toContend = frames;
        } else {
            who.toBePromised = frames;
        }
        return frames;
    }

    public int deafen(int d, int n) {
        Device who = deviceAt(d);
        if (who == null || n < 0 || n > MOST_DEAF) {
            return BAD;
        }
        int before = who.deaf;
        who.deaf = n;
        return before;
    }

    public int scan(int d) {
        Device who = deviceAt(d);
        if (who == null) {
            return BAD;
        }
        if (!who.isOrphan()) {
            return NO;
        }
        for (int c = 0; c < coordinators.length; c++) {
            if (coordinators[c].lists(d)) {
                who.comeHome(c);
                return c;
            }
        }
        return NONE;
    }

    // ---- promises

    public int ask(int d, int n) {
        causes.clear();
        Device who = deviceAt(d);
        if (who == null || n < 1 || n >= SLOTS) {
            causes.append(CAUSE_BAD);
            return BAD;
        }
        Coordinator home = coordinatorAt(who.home);
        if (home == null || !home.lists(d) || promiserOf(d) != null) {
            causes.append(CAUSE_NOT_NOW);
            return NO;
        }
        if (home.promises.size >= MOST_PROMISES) {
            causes.append(CAUSE_MOST_PROMISES);
            return FULL;
        }
        int left = home.promises.sharedSlots() - n;
        if (left < laid.least) {
            causes.append(CAUSE_LEAST);
            causes.append(CAUSE_WOULD_BE_LEFT + Math.max(0, left));
            return FULL;
        }
        home.promises.add(d, n);
        return left;
    }

    public int release(int d) {
        if (deviceAt(d) == null) {
            return BAD;
        }
        Coordinator promiser = promiserOf(d);
        return promiser == null ? NO : promiser.promises.removeOf(d);
    }

    public int promise(int c, int i, int what) {
        Coordinator where = coordinatorAt(c);
        if (where == null || i < -1 || what < 0 || what > 3) {
            return BAD;
        }
        return i == -1 ? where.promises.size : where.promises.tell(i, what);
    }

    // ---- time

    public int run(int n) {
        if (n < 1 || n > MOST_PARTS_A_RUN) {
            return BAD;
        }
        int sent = 0;
        for (int i = 0; i < n; i++) {
            int c = nextToBeacon();
            Coordinator next = coordinatorAt(c);
            if (next != null) {
                sent += activePart(c, next);
            }
        }
        return sent;
    }

    public int air(int c, int t) {
        Coordinator where = coordinatorAt(c);
        if (where == null || t < 0 || t >= laid.active || t >= where.air.length) {
            return BAD;
        }
        return where.parts == 0 ? NONE : where.air[t];
    }

    public int coordinator(int c, int what) {
        Coordinator who = coordinatorAt(c);
        return who == null ? BAD : who.tell(what);
    }

    public int device(int d, int what) {
        Device who = deviceAt(d);
        return who == null ? BAD : who.tell(what);
    }

    public int count(int what) {
        switch (what) {
            case 0: return laid.coordinatorCount;
            case 1: return laid.deviceCount;
            case 2: return now;
            case 3: return laid.beat;
            case 4: return laid.active;
            case 5: return laid.slot;
            case 6: return laid.least;
            case 7: return laid.life;
            case 8: return contention.seed;
            case 9: return causes.size;
            case 10: return letters.size;
            case 11: return orphans();
            case 12: return partsGone;
            default: return BAD;
        }
    }

    private Device deviceAt(int d) {
        return d >= 0 && d < laid.deviceCount && d < devices.length ? devices[d] : null;
    }

    private Coordinator coordinatorAt(int c) {
        return c >= 0 && c < laid.coordinatorCount && c < coordinators.length ? coordinators[c] : null;
    }

    /** Reads THE TEXT into the spare layout; a fault leaves its causes. */
    private int faultOfText() {
        int place = reader.readInto(spare);
        if (place != NONE) {
            causes.append(CAUSE_FAULT);
            causes.append(reader.why);
            if (reader.why == CAUSE_CLASH) {
                causes.append(CAUSE_CLASH_WITH + reader.clash);
            }
        }
        return place;
    }

    /** The spare layout is laid; the two change places, so that none is ever made anew. */
    private void takeLayout() {
        Layout before = laid;
        laid = spare;
        spare = before;
        for (int c = 0; c < coordinators.length; c++) {
            int start = laid.startAt(c);
            coordinators[c].layAt(laid.parentAt(c), start, start);
        }
        for (int d = 0; d < devices.length; d++) {
            devices[d].layAt(laid.homeAt(d), laid.lengthAt(d), laid.exponentAt(d));
            Coordinator home = coordinatorAt(devices[d].home);
            if (home != null) {
                home.enlist(d);
            }
        }
        contention.seed = FIRST_SEED;
        now = 0;
        partsGone = 0;
    }

    /** A device never has two promises: whoever joins elsewhere or is dropped loses the one it has. */
    private Coordinator promiserOf(int d) {
        for (int c = 0; c < coordinators.length; c++) {
            if (coordinators[c].promises.placeOf(d) != NONE) {
                return coordinators[c];
            }
        }
        return null;
    }

    private int orphans() {
        int many = 0;
        for (int d = 0; d < laid.deviceCount && d < devices.length; d++) {
            if (devices[d].isOrphan()) {
                many++;
            }
        }
        return many;
    }

    private int nextToBeacon() {
        int first = 0;
        for (int c = 1; c < laid.coordinatorCount && c < coordinators.length; c++) {
            if (coordinators[c].nextBeacon < coordinators[first].nextBeacon) {
                first = c;
            }
        }
        return first;
    }

    private int activePart(int c, Coordinator who) {
        Arrays.fill(who.air, 0);
        who.air[0] = AIR_BEACON;
        who.promises.removeIdle(laid.life);
        hearBeacon(c);
        int sent = contention.play(who.air, who.promises.sharedSlots() * laid.slot);
        sent += keepPromises(who);
        now = who.nextBeacon + laid.active;
        who.nextBeacon += laid.beat;
        who.parts++;
        partsGone++;
        return sent;
    }

    private void hearBeacon(int c) {
        for (Device each : devices) {
            each.heard = each.home == c && each.hearsBeacon();
        }
    }

    private int keepPromises(Coordinator who) {
        Promises promises = who.promises;
        int sent = 0;
        for (int i = 0; i < promises.size; i++) {
            Device sender = deviceAt(promises.tell(i, 0));
            int from = promises.tell(i, 1) * laid.slot;
            int room = promises.tell(i, 2) * laid.slot;
            int many = sender == null ? 0 : sender.sendPromised(who.air, from, room);
            promises.noteUse(i, many > 0);
            sent += many;
        }
        return sent;
    }

    /** Numbers one behind the other, so many at most: the letters of THE TEXT, the CAUSES. */
    private static final class Row {
        private final int[] items;
        private int size;

        Row(int most) {
            items = new int[Math.max(0, most)];
        }

        /** Whether there was room for it. */
        boolean append(int item) {
            if (size >= items.length) {
                return false;
            }
            items[size] = item;
            size++;
            return true;
        }

        void clear() {
            size = 0;
        }

        int at(int i) {
            return i >= 0 && i < size && i < items.length ? items[i] : NONE;
        }
    }

    /** What a text tells. */
    private static final class Layout {
        private int beat;
        private int active;
        private int slot;
        private int least;
        private int life;
        private int coordinatorCount;
        private int deviceCount;
        private final int[] parents = new int[MOST_COORDINATORS];
        private final int[] starts = new int[MOST_COORDINATORS];
        private final int[] homes = new int[MOST_DEVICES];
        private final int[] lengths = new int[MOST_DEVICES];
        private final int[] exponents = new int[MOST_DEVICES];

        void clear() {
            life = 4;
            deviceCount = 0;
            coordinatorCount = 0;
            addCoordinator(NONE, 0);
        }

        void setOrders(int beatOrder, int activeOrder, int leastShared) {
            beat = 48 << beatOrder;
            active = 48 << activeOrder;
            slot = 3 << activeOrder;
            least = leastShared;
        }

        void addCoordinator(int parent, int start) {
            int c = coordinatorCount;
            if (c >= 0 && c < MOST_COORDINATORS) {
                parents[c] = parent;
                starts[c] = start;
                coordinatorCount++;
            }
        }

        void addDevice(int home, int length, int exponent) {
            int d = deviceCount;
            if (d >= 0 && d < MOST_DEVICES) {
                homes[d] = home;
                lengths[d] = length;
                exponents[d] = exponent;
                deviceCount++;
            }
        }

        /** Both parts of the sum are less than a beat, so that one beat off is the whole modulo. */
        int startBehind(int parent, int offset) {
            int sum = startAt(parent) + offset;
            return sum >= beat ? sum - beat : sum;
        }

        /** The lowest coordinator that would have a tick in common with an active part from this start on. */
        int clashOf(int start) {
            for (int c = 0; c < coordinatorCount && c < starts.length; c++) {
                int apart = Math.abs(start - starts[c]);
                if (apart < active || beat - apart < active) {
                    return c;
                }
            }
            return NONE;
        }

        /** The first of the ticks start, start and a beat, .. that is no earlier than a tick. */
        int firstBeacon(int start, int tick) {
            if (tick <= start) {
                return start;
            }
            int beats = (tick - start + beat - 1) / Math.max(1, beat);
            return start + beats * beat;
        }

        int parentAt(int c) {
            return c >= 0 && c < coordinatorCount && c < parents.length ? parents[c] : NONE;
        }

        int startAt(int c) {
            return c >= 0 && c < coordinatorCount && c < starts.length ? starts[c] : 0;
        }

        int homeAt(int d) {
            return d >= 0 && d < deviceCount && d < homes.length ? homes[d] : NONE;
        }

        int lengthAt(int d) {
            return d >= 0 && d < deviceCount && d < lengths.length ? lengths[d] : 1;
        }

        int exponentAt(int d) {
            return d >= 0 && d < deviceCount && d < exponents.length ? exponents[d] : 0;
        }
    }

    /** Reads THE TEXT letter for letter; from the first fault on nothing more is read. */
    private static final class Reader {
        private final Row letters;
        private int place;
        private int why;
        private int clash;

        Reader(Row letters) {
            this.letters = letters;
        }

        /** The place of the fault, or NONE. */
        int readInto(Layout layout) {
            layout.clear();
            place = 0;
            why = 0;
            for (int items = 0; items < MOST_LETTERS && place < letters.size; items++) {
                int first = place;
                readItem(layout);
                if (why != 0) {
                    return first;
                }
            }
            return NONE;
        }

        private void readItem(Layout layout) {
            int letter = letters.at(place);
            boolean isFirst = place == 0;
            place++;
            if (isFirst != (letter == 'o')) {
                why = CAUSE_LETTER;
            } else if (letter == 'o') {
                readOrders(layout);
            } else if (letter == 'c' && layout.coordinatorCount < MOST_COORDINATORS) {
                readCoordinator(layout);
            } else if (letter == 'd' && layout.deviceCount < MOST_DEVICES) {
                readDevice(layout);
            } else if (letter == 'l') {
                readLife(layout);
            } else {
                why = CAUSE_LETTER;
            }
        }

        private void readOrders(Layout layout) {
            int beatOrder = readNumber(1, 0, 5);
            int activeOrder = readNumber(1, 0, Math.min(3, beatOrder));
            int least = readNumber(1, 1, 9);
            readEnd();
            if (why == 0) {
                layout.setOrders(beatOrder, activeOrder, least);
            }
        }

        private void readCoordinator(Layout layout) {
            int parent = readNumber(1, 0, layout.coordinatorCount - 1);
            int offset = readNumber(4, 0, layout.beat - 1);
            int start = layout.startBehind(parent, offset);
            if (why == 0) {
                clash = layout.clashOf(start);
                why = clash == NONE ? 0 : CAUSE_CLASH;
            }
            readEnd();
            if (why == 0) {
                layout.addCoordinator(parent, start);
            }
        }

        private void readDevice(Layout layout) {
            int home = readNumber(1, 0, layout.coordinatorCount - 1);
            int length = readNumber(1, 1, 8);
            int exponent = readNumber(1, 0, 3);
            readEnd();
            if (why == 0) {
                layout.addDevice(home, length, exponent);
            }
        }

        private void readLife(Layout layout) {
            int life = readNumber(1, 1, 9);
            readEnd();
            if (why == 0) {
                layout.life = life;
            }
        }

        private int readNumber(int figures, int lowest, int highest) {
            int value = 0;
            for (int i = 0; i < figures && why == 0; i++) {
                int letter = letters.at(place);
                if (letter < '0' || letter > '9') {
                    why = CAUSE_FIGURE;
                } else {
                    value = value * 10 + letter - '0';
                    place++;
                }
            }
            if (why == 0 && (value < lowest || value > highest)) {
                why = CAUSE_NUMBER;
            }
            return value;
        }

        private void readEnd() {
            if (why == 0 && letters.at(place) != ';') {
                why = CAUSE_FIGURE;
            }
            place++;
        }
    }

    /** How a coordinator stands. */
    private static final class Coordinator {
        private int parent;
        private int start;
        private int list;
        private int nextBeacon;
        private int parts;
        private final Promises promises = new Promises();
        private final int[] air = new int[LONGEST_PART];

        void layAt(int itsParent, int itsStart, int itsFirstBeacon) {
            parent = itsParent;
            start = itsStart;
            nextBeacon = itsFirstBeacon;
            list = 0;
            parts = 0;
            promises.clear();
        }

        boolean lists(int d) {
            return (list & (1 << d)) != 0;
        }

        void enlist(int d) {
            list |= 1 << d;
        }

        void forget(int d) {
            list &= ~(1 << d);
            promises.removeOf(d);
        }

        int tell(int what) {
            switch (what) {
                case 0: return start;
                case 1: return parent;
                case 2: return promises.sharedSlots();
                case 3: return list;
                case 4: return nextBeacon;
                case 5: return parts;
                default: return BAD;
            }
        }
    }

    /** The promises of one coordinator, in the order in which they came. */
    private static final class Promises {
        private final int[] holders = new int[MOST_PROMISES];
        private final int[] slots = new int[MOST_PROMISES];
        private final int[] idle = new int[MOST_PROMISES];
        private int size;

        void clear() {
            size = 0;
        }

        void add(int d, int n) {
            if (size < MOST_PROMISES) {
                holders[size] = d;
                slots[size] = n;
                idle[size] = 0;
                size++;
            }
        }

        /** Promises stand in a row down from the last slot: a first slot is told by all up to its own. */
        int firstSlot(int i) {
            int first = SLOTS;
            for (int j = 0; j <= i && j < size && j < slots.length; j++) {
                first -= slots[j];
            }
            return first;
        }

        int sharedSlots() {
            return firstSlot(size - 1);
        }

        int placeOf(int d) {
            for (int i = 0; i < size && i < holders.length; i++) {
                if (holders[i] == d) {
                    return i;
                }
            }
            return NONE;
        }

        /** How many slots the promise to a device had that goes; 0 if there was none. */
        int removeOf(int d) {
            int i = placeOf(d);
            int had = i == NONE ? 0 : tell(i, 2);
            removeAt(i);
            return had;
        }

        void removeIdle(int life) {
            for (int i = size - 1; i >= 0; i--) {
                if (tell(i, 3) >= life) {
                    removeAt(i);
                }
            }
        }

        void noteUse(int i, boolean used) {
            if (i >= 0 && i < size && i < idle.length) {
                idle[i] = used ? 0 : idle[i] + 1;
            }
        }

        int tell(int i, int what) {
            if (i < 0 || i >= size || i >= holders.length) {
                return NONE;
            }
            switch (what) {
                case 0: return holders[i];
                case 1: return firstSlot(i);
                case 2: return slots[i];
                case 3: return idle[i];
                default: return BAD;
            }
        }

        private void removeAt(int i) {
            if (i < 0 || i >= size) {
                return;
            }
            for (int j = i + 1; j < size && j < holders.length; j++) {
                holders[j - 1] = holders[j];
                slots[j - 1] = slots[j];
                idle[j - 1] = idle[j];
            }
            size--;
        }
    }

    /** How a device stands. */
    private static final class Device {
        private static final int MOST_MISSED = 4;
        private static final int MOST_LOOKS = 5;
        private static final int MOST_TRIES = 4;
        private static final int MOST_EXPONENT = 5;

        private final int number;
        private int home;
        private int length;
        private int firstExponent;
        private int toContend;
        private int toBePromised;
        private int sent;
        private int givenUp;
        private int missed;
        private int deaf;
        private int doing;
        private int exponent;
        private int busyLooks;
        private int tries;
        private int hurtFrames;
        // The fields from here on are set by whatever makes them count, so that layAt leaves them alone.
        private boolean heard;
        private int wait;
        private int freeLooks;
        private int ticksToSend;
        private boolean hurt;

        Device(int number) {
            this.number = number;
        }

        void layAt(int itsHome, int itsLength, int itsExponent) {
            home = itsHome;
            length = itsLength;
            firstExponent = itsExponent;
            toContend = 0;
            toBePromised = 0;
            sent = 0;
            givenUp = 0;
            missed = 0;
            deaf = 0;
            doing = RESTS;
            exponent = itsExponent;
            busyLooks = 0;
            tries = 0;
            hurtFrames = 0;
        }

        boolean isOrphan() {
            return home == NONE;
        }

        void comeHome(int c) {
            home = c;
            missed = 0;
        }

        boolean hearsBeacon() {
            if (deaf == 0) {
                missed = 0;
                return true;
            }
            deaf--;
            missed++;
            if (missed >= MOST_MISSED) {
                home = NONE;
            }
            return false;
        }

        void beginFrame() {
            busyLooks = 0;
            exponent = firstExponent;
        }

        void waitFor(int ticks) {
            doing = WAITS;
            wait = ticks;
        }

        void waitLess() {
            wait = Math.max(0, wait - 1);
        }

        /** A frame must end within the shared slots, or it is not begun. */
        void lookOrHold(int t, int end) {
            doing = t + length + 2 <= end ? LOOKS : HELD;
            freeLooks = 0;
        }

        void startSending() {
            doing = SENDS;
            ticksToSend = length;
            hurt = false;
        }

        /** Whether the frame is still to be sent. */
        boolean foundBusy() {
            busyLooks++;
            exponent = Math.min(MOST_EXPONENT, exponent + 1);
            if (busyLooks >= MOST_LOOKS) {
                giveUp();
                return false;
            }
            return true;
        }

        /** Whether the frame is still to be sent. */
        boolean foundHurt() {
            hurtFrames++;
            tries++;
            if (tries >= MOST_TRIES) {
                giveUp();
                return false;
            }
            return true;
        }

        void frameSent() {
            sent++;
            endFrame();
        }

        /** Sends what fits into a room of ticks, and tells how many frames that were. */
        int sendPromised(int[] air, int from, int room) {
            if (!heard) {
                return 0;
            }
            int many = Math.min(toBePromised, room / Math.max(1, length));
            int behind = Math.min(from + many * length, air.length);
            for (int t = Math.max(0, from); t < behind; t++) {
                air[t] = AIR_DEVICE + number;
            }
            toBePromised -= many;
            sent += many;
            return many;
        }

        int tell(int what) {
            switch (what) {
                case 0: return home;
                case 1: return length;
                case 2: return firstExponent;
                case 3: return toContend;
                case 4: return toBePromised;
                case 5: return sent;
                case 6: return givenUp;
                case 7: return missed;
                case 8: return deaf;
                case 9: return doing;
                case 10: return exponent;
                case 11: return busyLooks;
                case 12: return tries;
                case 13: return hurtFrames;
                default: return BAD;
            }
        }

        private void giveUp() {
            givenUp++;
            endFrame();
        }

        private void endFrame() {
            toContend--;
            doing = RESTS;
            tries = 0;
        }
    }

    /** The shared slots of one active part, tick by tick, among the devices that heard its beacon. */
    private static final class Contention {
        private final Device[] devices;
        private int seed;
        private int senders;
        private int lastSender;

        Contention(Device[] devices) {
            this.devices = devices;
        }

        /** How many frames were sent in the ticks from 1 on to less than the end. */
        int play(int[] air, int end) {
            int sent = 0;
            boolean lively = true;
            for (int t = 1; t < end && t < air.length && lively; t++) {
                lively = takeUp(t, end);
                air[t] = airNow();
                listenAndWait();
                sent += endFrames();
            }
            holdAll();
            return sent;
        }

        /**
         * Steps (a), (b), (c). They go together for each device, as only (a) draws, and none of them minds the others.
         * Once none waits, looks or sends behind them, none ever will in this part: the answer is false then.
         */
        private boolean takeUp(int t, int end) {
            boolean lively = false;
            senders = 0;
            for (Device each : devices) {
                begin(each, t);
                if (each.doing == WAITS && each.wait == 0) {
                    each.lookOrHold(t, end);
                }
                if (each.doing == LOOKS && each.freeLooks >= 2) {
                    each.startSending();
                }
                if (each.doing == SENDS) {
                    senders++;
                    lastSender = each.number;
                }
                lively = lively || each.doing != RESTS && each.doing != HELD;
            }
            return lively;
        }

        /** Whoever did not hear the beacon begins nothing here, and so rests or is held all through the part. */
        private void begin(Device who, int t) {
            if (!who.heard) {
                return;
            }
            if (who.doing == RESTS && who.toContend > 0) {
                who.beginFrame();
                draw(who);
            } else if (who.doing == HELD && t == 1) {
                draw(who);
            }
        }

        private int airNow() {
            if (senders > 1) {
                return AIR_SEVERAL;
            }
            return senders == 1 ? AIR_DEVICE + lastSender : 0;
        }

        /** Hurt frames, and steps (d), (e): whoever draws in (d) looked, so that it is not met as one that waits. */
        private void listenAndWait() {
            for (Device each : devices) {
                if (each.doing == SENDS) {
                    each.hurt = each.hurt || senders > 1;
                } else if (each.doing == LOOKS && senders == 0) {
                    each.freeLooks++;
                } else if (each.doing == LOOKS) {
                    if (each.foundBusy()) {
                        draw(each);
                    }
                } else if (each.doing == WAITS) {
                    each.waitLess();
                }
            }
        }

        /** Step (f): how many frames were sent. */
        private int endFrames() {
            int sent = 0;
            for (Device each : devices) {
                if (each.doing == SENDS) {
                    each.ticksToSend--;
                    if (each.ticksToSend <= 0) {
                        sent += endFrame(each);
                    }
                }
            }
            return sent;
        }

        private int endFrame(Device who) {
            if (!who.hurt) {
                who.frameSent();
                return 1;
            }
            if (who.foundHurt()) {
                who.beginFrame();
                draw(who);
            }
            return 0;
        }

        private void holdAll() {
            for (Device each : devices) {
                if (each.doing == WAITS || each.doing == LOOKS) {
                    each.doing = HELD;
                }
            }
        }

        private void draw(Device who) {
            seed = (7919 * seed + 12345) % SEEDS;
            who.waitFor(seed % (1 << who.exponent));
        }
    }
}
