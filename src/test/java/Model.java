import java.util.ArrayList;
import java.util.List;
import java.util.TreeSet;

/**
 * The document once more, sentence by sentence, with the whole Java library and without a thought for room or speed:
 * every step of a tick is a pass of its own, every tick of an active part is played, the overlap of active parts is
 * looked at tick by tick. ModelTest compares the program with it.
 */
final class Model {
    static final int BAD = -1, NO = -2, FULL = -3, NONE = -4;

    enum Does { RESTS, WAITS, LOOKS, HELD, SENDS }

    static final class Dev {
        int home, length, e, contend, promised, sent, up, missed, deaf, exponent, looks, tries, hurtFrames;
        Does does = Does.RESTS;
        int wait, looked, ticksSent;
        boolean hurt, drewInD, heard;
    }

    static final class Prom {
        int dev, n, idle;
    }

    static final class Coord {
        int start, parent, next, had;
        final TreeSet<Integer> list = new TreeSet<>();
        final List<Prom> promises = new ArrayList<>();
        int[] air;

        int shared() {
            return 16 - promises.stream().mapToInt(p -> p.n).sum();
        }

        int first(int i) {
            return 16 - promises.stream().limit(i + 1).mapToInt(p -> p.n).sum();
        }
    }

    /** What a text tells: all that there is when it is laid. */
    static final class World {
        int beat, active, slot, least, life = 4;
        final List<Coord> coords = new ArrayList<>();
        final List<Dev> devs = new ArrayList<>();
    }

    /** A fault, with its place and its causes. */
    static final class Fault extends RuntimeException {
        private static final long serialVersionUID = 1L;
        final int why, met;

        Fault(int why, int met) {
            this.why = why;
            this.met = met;
        }
    }

    private final StringBuilder text = new StringBuilder();
    private List<Integer> causes = new ArrayList<>();
    private World w;
    private int now, went, seed;

    Model() {
        lay(read("o418;d023;d012;d031;c00192;d123;d112;c00400;d221;l3;", new int[1]));
    }

    private void lay(World world) {
        w = world;
        now = 0;
        went = 0;
        seed = 1;
        for (Coord c : w.coords) {
            c.next = c.start;
        }
        for (int d = 0; d < w.devs.size(); d++) {
            w.coords.get(w.devs.get(d).home).list.add(d);
        }
    }

    // ---- texts

    private static World read(String text, int[] place) {
        World world = new World();
        int at = 0;
        while (at < text.length()) {
            place[0] = at;
            at = item(world, text, at);
        }
        return world;
    }

    private static int item(World world, String text, int at) {
        char letter = text.charAt(at);
        boolean orders = letter == 'o';
        if ("ocdl".indexOf(letter) < 0 || orders && at != 0 || !orders && at == 0
            || letter == 'c' && world.coords.size() == 4 || letter == 'd' && world.devs.size() == 8) {
            throw new Fault(10, NONE);
        }
        int behind = at + 1;
        switch (letter) {
            case 'o':
                int b = number(text, at + 1, 1);
                must(b <= 5);
                int s = number(text, at + 2, 1);
                must(s <= 3 && s <= b);
                int m = number(text, at + 3, 1);
                must(m >= 1);
                world.beat = 48 * (int) Math.pow(2, b);
                world.active = 48 * (int) Math.pow(2, s);
                world.slot = 3 * (int) Math.pow(2, s);
                world.least = m;
                Coord root = new Coord();
                root.parent = NONE;
                world.coords.add(root);
                behind = at + 4;
                break;
            case 'c':
                int p = number(text, at + 1, 1);
                must(p < world.coords.size());
                int offset = number(text, at + 2, 4);
                must(offset < world.beat);
                Coord c = new Coord();
                c.parent = p;
                c.start = (world.coords.get(p).start + offset) % world.beat;
                int met = met(world, c.start);
                if (met != NONE) {
                    throw new Fault(13, met);
                }
                world.coords.add(c);
                behind = at + 6;
                break;
            case 'd':
                Dev d = new Dev();
                d.home = number(text, at + 1, 1);
                must(d.home < world.coords.size());
                d.length = number(text, at + 2, 1);
                must(d.length >= 1 && d.length <= 8);
                d.e = number(text, at + 3, 1);
                must(d.e <= 3);
                d.exponent = d.e;
                world.devs.add(d);
                behind = at + 4;
                break;
            default:
                int life = number(text, at + 1, 1);
                must(life >= 1);
                world.life = life;
                behind = at + 2;
        }
        if (behind >= text.length() || text.charAt(behind) != ';') {
            throw new Fault(11, NONE);
        }
        return behind + 1;
    }

    private static void must(boolean told) {
        if (!told) {
            throw new Fault(12, NONE);
        }
    }

    private static int number(String text, int at, int figures) {
        for (int i = at; i < at + figures; i++) {
            if (i >= text.length() || "0123456789".indexOf(text.charAt(i)) < 0) {
                throw new Fault(11, NONE);
            }
        }
        return Integer.parseInt(text.substring(at, at + figures));
    }

    /** The lowest coordinator that has one of these ticks too. */
    private static int met(World world, int start) {
        for (int c = 0; c < world.coords.size(); c++) {
            boolean[] its = new boolean[world.beat];
            for (int t = 0; t < world.active; t++) {
                its[(world.coords.get(c).start + t) % world.beat] = true;
            }
            for (int t = 0; t < world.active; t++) {
                if (its[(start + t) % world.beat]) {
                    return c;
                }
            }
        }
        return NONE;
    }

    private int refused(int answer, Integer... why) {
        causes = new ArrayList<>(List.of(why));
        return answer;
    }

    int write(int letter) {
        if (letter < 32 || letter > 126) {
            return BAD;
        }
        if (text.length() == 200) {
            return FULL;
        }
        return text.append((char) letter).length();
    }

    int wipe() {
        int was = text.length();
        text.setLength(0);
        return was;
    }

    int fault() {
        int[] place = new int[1];
        try {
            read(text.toString(), place);
            return refused(NONE);
        } catch (Fault f) {
            return f.met == NONE ? refused(place[0], 1, f.why) : refused(place[0], 1, f.why, 20 + f.met);
        }
    }

    int lay() {
        if (fault() != NONE) {
            return NO;
        }
        World told = read(text.toString(), new int[1]);
        if (told.devs.isEmpty()) {
            return refused(NO, 2);
        }
        lay(told);
        return w.devs.size();
    }

    int cause(int i) {
        return i < 0 ? BAD : i < causes.size() ? causes.get(i) : NONE;
    }

    private boolean isC(int c) {
        return c >= 0 && c < w.coords.size();
    }

    private boolean isD(int d) {
        return d >= 0 && d < w.devs.size();
    }

    int nest(int parent, int offset) {
        if (!isC(parent) || offset < 0 || offset >= w.beat) {
            return refused(BAD, 18);
        }
        if (w.coords.size() == 4) {
            return refused(FULL, 14);
        }
        int start = (w.coords.get(parent).start + offset) % w.beat;
        int met = met(w, start);
        if (met != NONE) {
            return refused(NO, 13, 20 + met);
        }
        Coord c = new Coord();
        c.start = start;
        c.parent = parent;
        c.next = start;
        while (c.next < now) {
            c.next += w.beat;
        }
        w.coords.add(c);
        return refused(w.coords.size() - 1);
    }

    int seed(int z) {
        if (z < 0 || z > 65520) {
            return BAD;
        }
        int was = seed;
        seed = z;
        return was;
    }

    // ---- devices

    int join(int d, int c) {
        if (!isD(d) || !isC(c)) {
            return BAD;
        }
        Dev dev = w.devs.get(d);
        if (dev.home == c && w.coords.get(c).list.contains(d)) {
            return NO;
        }
        for (Coord other : w.coords) {
            other.list.remove(d);
            if (other != w.coords.get(c)) {
                other.promises.removeIf(p -> p.dev == d);
            }
        }
        w.coords.get(c).list.add(d);
        int was = dev.home;
        dev.home = c;
        dev.missed = 0;
        return was;
    }

    int drop(int d) {
        if (!isD(d)) {
            return BAD;
        }
        int lists = 0;
        for (Coord c : w.coords) {
            lists += c.list.remove(d) ? 1 : 0;
            c.promises.removeIf(p -> p.dev == d);
        }
        return lists;
    }

    int load(int d, int kind, int many) {
        if (!isD(d) || kind < 0 || kind > 1 || many < 0 || many > 99) {
            return BAD;
        }
        Dev dev = w.devs.get(d);
        if ((kind == 0 ? dev.contend : dev.promised) + many > 99) {
            return FULL;
        }
        return kind == 0 ? (dev.contend += many) : (dev.promised += many);
    }

    int deafen(int d, int n) {
        if (!isD(d) || n < 0 || n > 9) {
            return BAD;
        }
        int was = w.devs.get(d).deaf;
        w.devs.get(d).deaf = n;
        return was;
    }

    int scan(int d) {
        if (!isD(d)) {
            return BAD;
        }
        Dev dev = w.devs.get(d);
        if (dev.home != NONE) {
            return NO;
        }
        for (int c = 0; c < w.coords.size(); c++) {
            if (w.coords.get(c).list.contains(d)) {
                dev.home = c;
                dev.missed = 0;
                return c;
            }
        }
        return NONE;
    }

    // ---- promises

    int ask(int d, int n) {
        if (!isD(d) || n < 1 || n > 15) {
            return refused(BAD, 18);
        }
        int h = w.devs.get(d).home;
        boolean has = w.coords.stream().anyMatch(c -> c.promises.stream().anyMatch(p -> p.dev == d));
        if (h == NONE || !w.coords.get(h).list.contains(d) || has) {
            return refused(NO, 15);
        }
        Coord c = w.coords.get(h);
        if (c.promises.size() == 7) {
            return refused(FULL, 16);
        }
        if (c.shared() - n < w.least) {
            return refused(FULL, 17, 30 + Math.max(0, c.shared() - n));
        }
        Prom p = new Prom();
        p.dev = d;
        p.n = n;
        c.promises.add(p);
        return refused(c.first(c.promises.size() - 1));
    }

    int release(int d) {
        if (!isD(d)) {
            return BAD;
        }
        for (Coord c : w.coords) {
            for (Prom p : c.promises) {
                if (p.dev == d) {
                    c.promises.remove(p);
                    return p.n;
                }
            }
        }
        return NO;
    }

    int promise(int c, int i, int what) {
        if (!isC(c) || i < -1 || what < 0 || what > 3) {
            return BAD;
        }
        List<Prom> all = w.coords.get(c).promises;
        if (i == -1) {
            return all.size();
        }
        if (i >= all.size()) {
            return NONE;
        }
        Prom p = all.get(i);
        return new int[] {p.dev, w.coords.get(c).first(i), p.n, p.idle}[what];
    }

    // ---- time

    int run(int n) {
        if (n < 1 || n > 20) {
            return BAD;
        }
        int before = w.devs.stream().mapToInt(d -> d.sent).sum();
        for (int i = 0; i < n; i++) {
            Coord next = w.coords.get(0);
            for (Coord c : w.coords) {
                next = c.next < next.next ? c : next;
            }
            part(next);
        }
        return w.devs.stream().mapToInt(d -> d.sent).sum() - before;
    }

    private void part(Coord c) {
        c.air = new int[w.active];
        c.air[0] = 1;
        c.promises.removeIf(p -> p.idle >= w.life);
        for (Dev d : w.devs) {
            d.heard = false;
            if (d.home == w.coords.indexOf(c)) {
                if (d.deaf == 0) {
                    d.heard = true;
                    d.missed = 0;
                } else {
                    d.deaf--;
                    d.missed++;
                    d.home = d.missed == 4 ? NONE : d.home;
                }
            }
        }
        int k = c.shared() * w.slot;
        for (int t = 1; t < k; t++) {
            tick(c, t, k);
        }
        for (Dev d : w.devs) {
            if (d.heard && d.does == Does.SENDS) {
                throw new IllegalStateException("a frame goes on behind the shared slots");
            }
            if (d.heard && (d.does == Does.WAITS || d.does == Does.LOOKS)) {
                d.does = Does.HELD;
            }
        }
        for (int i = 0; i < c.promises.size(); i++) {
            keep(c, c.promises.get(i), c.first(i) * w.slot);
        }
        now = c.next + w.active;
        c.next += w.beat;
        c.had++;
        went++;
    }

    private void keep(Coord c, Prom p, int from) {
        Dev d = w.devs.get(p.dev);
        int at = from;
        boolean any = false;
        while (d.heard && d.promised > 0 && at + d.length <= from + p.n * w.slot) {
            for (int i = 0; i < d.length; i++) {
                c.air[at + i] = 10 + p.dev;
            }
            at += d.length;
            d.promised--;
            d.sent++;
            any = true;
        }
        p.idle = any ? 0 : p.idle + 1;
    }

    private void draw(Dev d) {
        seed = (int) ((7919L * seed + 12345L) % 65521L);
        d.does = Does.WAITS;
        d.wait = seed % (int) Math.pow(2, d.exponent);
    }

    private void anew(Dev d) {
        d.looks = 0;
        d.exponent = d.e;
        draw(d);
    }

    private void gone(Dev d) {
        d.contend--;
        d.does = Does.RESTS;
        d.tries = 0;
    }

    private void tick(Coord c, int t, int k) {
        List<Dev> in = w.devs.stream().filter(d -> d.heard).toList();
        for (Dev d : in) { // (a)
            if (d.does == Does.RESTS && d.contend > 0) {
                anew(d);
            } else if (t == 1 && d.does == Does.HELD) {
                draw(d);
            }
        }
        for (Dev d : in) { // (b)
            if (d.does == Does.WAITS && d.wait == 0) {
                d.does = t + d.length + 2 <= k ? Does.LOOKS : Does.HELD;
                d.looked = 0;
            }
        }
        for (Dev d : in) { // (c)
            if (d.does == Does.LOOKS && d.looked == 2) {
                d.does = Does.SENDS;
                d.ticksSent = 0;
                d.hurt = false;
            }
        }
        List<Dev> senders = in.stream().filter(d -> d.does == Does.SENDS).toList();
        boolean busy = !senders.isEmpty();
        for (Dev d : senders) {
            d.ticksSent++;
            d.hurt |= senders.size() >= 2;
        }
        c.air[t] = senders.size() >= 2 ? 2 : busy ? 10 + w.devs.indexOf(senders.get(0)) : 0;
        for (Dev d : in) { // (d)
            d.drewInD = false;
            if (d.does == Does.LOOKS && !busy) {
                d.looked++;
            } else if (d.does == Does.LOOKS) {
                d.looks++;
                d.exponent = Math.min(5, d.exponent + 1);
                if (d.looks == 5) {
                    d.up++;
                    gone(d);
                } else {
                    draw(d);
                    d.drewInD = true;
                }
            }
        }
        for (Dev d : in) { // (e)
            if (d.does == Does.WAITS && !d.drewInD) {
                d.wait = Math.max(0, d.wait - 1);
            }
        }
        for (Dev d : in) { // (f)
            if (d.does == Does.SENDS && d.ticksSent == d.length) {
                if (!d.hurt) {
                    d.sent++;
                    gone(d);
                } else {
                    d.hurtFrames++;
                    d.tries++;
                    if (d.tries == 4) {
                        d.up++;
                        gone(d);
                    } else {
                        anew(d);
                    }
                }
            }
        }
    }

    int air(int c, int t) {
        if (!isC(c) || t < 0 || t >= w.active) {
            return BAD;
        }
        return w.coords.get(c).had == 0 ? NONE : w.coords.get(c).air[t];
    }

    int coordinator(int c, int what) {
        if (!isC(c) || what < 0 || what > 5) {
            return BAD;
        }
        Coord x = w.coords.get(c);
        int bits = x.list.stream().mapToInt(d -> 1 << d).sum();
        return new int[] {x.start, x.parent, x.shared(), bits, x.next, x.had}[what];
    }

    int device(int d, int what) {
        if (!isD(d) || what < 0 || what > 13) {
            return BAD;
        }
        Dev x = w.devs.get(d);
        return new int[] {x.home, x.length, x.e, x.contend, x.promised, x.sent, x.up, x.missed, x.deaf, x.does.ordinal(),
            x.exponent, x.looks, x.tries, x.hurtFrames}[what];
    }

    int count(int what) {
        if (what < 0 || what > 12) {
            return BAD;
        }
        int orphans = (int) w.devs.stream().filter(d -> d.home == NONE).count();
        return new int[] {w.coords.size(), w.devs.size(), now, w.beat, w.active, w.slot, w.least, w.life, seed, causes.size(),
            text.length(), orphans, went}[what];
    }
}
