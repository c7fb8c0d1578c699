import java.math.BigInteger;
import java.util.ArrayDeque;
import java.util.ArrayList;
import java.util.Comparator;
import java.util.Deque;
import java.util.List;

/** The document once more, in another form and with the whole Java library: what LetterFabric is compared with. */
final class PlainFabric {
    private static final int BAD = -1, STATE = -2, FULL = -3, NONE = -9;

    private static final class Letter {
        int number, line, address, priority, put, ended = NONE, rounds, where;

        Letter copy() {
            Letter l = new Letter();
            l.number = number;
            l.line = line;
            l.address = address;
            l.priority = priority;
            l.put = put;
            l.ended = ended;
            l.rounds = rounds;
            l.where = where;
            return l;
        }
    }

    private static final Comparator<Letter> AHEAD =
            Comparator.<Letter>comparingInt(l -> -l.priority).thenComparingInt(l -> l.number);

    private static final class World {
        int nets = 1, back = 8, room = 8, now = 0;
        List<Letter> letters = new ArrayList<>();
        List<List<Letter>> queues = new ArrayList<>();

        World() {
            for (int a = 0; a < 8; a++) {
                queues.add(new ArrayList<>());
            }
        }

        World copy() {
            World w = new World();
            w.nets = nets;
            w.back = back;
            w.room = room;
            w.now = now;
            for (Letter l : letters) {
                w.letters.add(l.copy());
            }
            for (int a = 0; a < 8; a++) {
                for (Letter l : queues.get(a)) {
                    w.queues.get(a).add(w.letters.get(l.number));
                }
            }
            return w;
        }

        List<Letter> at(int... wheres) {
            List<Letter> some = new ArrayList<>();
            for (Letter l : letters) {
                for (int where : wheres) {
                    if (l.where == where) {
                        some.add(l);
                    }
                }
            }
            return some;
        }

        Letter onLine(int line) {
            return at(0).stream().filter(l -> l.line == line).findFirst().orElse(null);
        }

        List<Letter> sorted() {
            List<Letter> all = at(0, 1);
            all.sort(Comparator.<Letter>comparingInt(l -> l.address).thenComparing(AHEAD));
            return all;
        }

        int slot() {
            List<Letter> all = sorted();
            List<Letter> winners = new ArrayList<>();
            for (int a = 0; a < 8; a++) {
                int address = a;
                all.stream().filter(l -> l.address == address).limit(nets).forEach(winners::add);
            }
            for (Letter l : winners) {
                if (queues.stream().mapToInt(List::size).sum() < room) {
                    queues.get(l.address).add(l);
                    l.where = 2;
                }
            }
            List<Letter> others = new ArrayList<>(all);
            others.removeIf(l -> l.where == 2);
            others.sort(AHEAD);
            for (int i = 0; i < others.size(); i++) {
                Letter l = others.get(i);
                if (i < back) {
                    l.where = 1;
                    l.rounds++;
                } else {
                    l.where = 4;
                    l.ended = now;
                }
            }
            int out = 0;
            for (List<Letter> q : queues) {
                if (!q.isEmpty()) {
                    Letter l = q.remove(0);
                    l.where = 3;
                    l.ended = now;
                    out++;
                }
            }
            now++;
            return out;
        }
    }

    private World world = new World();
    private final Deque<World> past = new ArrayDeque<>();
    private final World[] images = new World[2];
    private final List<int[]> seen = new ArrayList<>();

    private static boolean out(int v, int lo, int hi) {
        return v < lo || v > hi;
    }

    private void remember() {
        past.addLast(world.copy());
        if (past.size() > 10) {
            past.removeFirst();
        }
    }

    int tells(int nets, int back, int room) {
        if (out(nets, 1, 3) || out(back, 0, 8) || out(room, 0, 24)) {
            return BAD;
        }
        if (world.nets == nets && world.back == back && world.room == room) {
            return STATE;
        }
        remember();
        world.nets = nets;
        world.back = back;
        world.room = room;
        return 1;
    }

    int puts(int line, int address, int priority) {
        if (out(line, 0, 7) || out(address, 0, 7) || out(priority, 0, 3)) {
            return BAD;
        }
        if (world.onLine(line) != null) {
            return STATE;
        }
        if (world.letters.size() == 64) {
            return FULL;
        }
        remember();
        Letter l = new Letter();
        l.number = world.letters.size();
        l.line = line;
        l.address = address;
        l.priority = priority;
        l.put = world.now;
        world.letters.add(l);
        return l.number;
    }

    int slot() {
        if (world.now == 99) {
            return STATE;
        }
        remember();
        return world.slot();
    }

    int undo() {
        if (past.isEmpty()) {
            return STATE;
        }
        world = past.removeLast();
        return past.size();
    }

    int clear() {
        int letters = world.letters.size();
        world = new World();
        past.clear();
        seen.clear();
        images[0] = null;
        images[1] = null;
        return letters;
    }

    int letter(int n, int what) {
        if (n < 0 || n >= world.letters.size() || out(what, 0, 6)) {
            return BAD;
        }
        Letter l = world.letters.get(n);
        return new int[] {l.where, l.line, l.address, l.priority, l.put, l.ended, l.rounds}[what];
    }

    int line(int line) {
        if (out(line, 0, 7)) {
            return BAD;
        }
        Letter l = world.onLine(line);
        return l == null ? NONE : l.number;
    }

    private static int pick(List<Letter> row, int k) {
        return k < row.size() ? row.get(k).number : NONE;
    }

    int queue(int address, int k) {
        return out(address, 0, 7) || k < 0 ? BAD : pick(world.queues.get(address), k);
    }

    int turned(int k) {
        List<Letter> row = world.at(1);
        row.sort(AHEAD);
        return k < 0 ? BAD : pick(row, k);
    }

    int sorted(int k) {
        return k < 0 ? BAD : pick(world.sorted(), k);
    }

    int straight(int line) {
        if (out(line, 0, 7)) {
            return BAD;
        }
        if (world.onLine(line) == null) {
            return STATE;
        }
        int[] blocked = new int[8];
        for (int stage = 1; stage <= 3; stage++) {
            // behind a stage the upper bits are the address's, the lower ones still the line's
            int mask = new int[] {0, 4, 6, 7}[stage];
            for (int a = 0; a < 8; a++) {
                for (int b = 0; b < a; b++) {
                    Letter low = world.onLine(b);
                    Letter high = world.onLine(a);
                    if (low == null || high == null) {
                        continue;
                    }
                    int lowAt = low.address & mask | b & ~mask;
                    int highAt = high.address & mask | a & ~mask;
                    boolean bothThere = blocked[a] == 0 && (blocked[b] == 0 || blocked[b] == stage);
                    if (lowAt == highAt && bothThere) {
                        blocked[a] = stage;
                    }
                }
            }
        }
        return blocked[line];
    }

    int drain() {
        World w = world.copy();
        for (int n = 0; n <= 99; n++) {
            if (w.at(0, 1, 2).isEmpty()) {
                return n;
            }
            w.slot();
        }
        return NONE;
    }

    private int lost(int n, int nets) {
        World w = world.copy();
        w.nets = nets;
        for (int i = 0; i < n; i++) {
            w.slot();
        }
        return w.at(4).size() - world.at(4).size();
    }

    int lost(int n) {
        return out(n, 0, 40) ? BAD : lost(n, world.nets);
    }

    int fewest(int n) {
        if (out(n, 0, 40)) {
            return BAD;
        }
        for (int nets = 1; nets <= 3; nets++) {
            if (lost(n, nets) == 0) {
                return nets;
            }
        }
        return NONE;
    }

    long share(int x, int l, int what) {
        if (out(x, 0, 10) || out(l, 0, 8) || out(what, 0, 1)) {
            return BAD;
        }
        // every one of the 256 sets of lines whose letters come to the address, one by one
        BigInteger upper = BigInteger.ZERO;
        BigInteger lower = BigInteger.valueOf(80).pow(8);
        for (int set = 0; set < 256; set++) {
            int come = Integer.bitCount(set);
            BigInteger ways = BigInteger.valueOf(x).pow(come).multiply(BigInteger.valueOf(80 - x).pow(8 - come));
            upper = upper.add(ways.multiply(BigInteger.valueOf(Math.max(0, come - l))));
        }
        BigInteger common = upper.gcd(lower);
        return (what == 0 ? upper : lower).divide(common).longValueExact();
    }

    int sees(int n, int m) {
        if (out(n, 1, 40) || out(m, 0, 64)) {
            return BAD;
        }
        if (seen.size() == 6) {
            return FULL;
        }
        seen.add(new int[] {n, m});
        return seen.size();
    }

    int forget() {
        int size = seen.size();
        seen.clear();
        return size;
    }

    private int outsWithout(int letter, int slots) {
        World w = world.copy();
        w.letters.get(letter).where = -1;
        int outs = 0;
        for (int i = 0; i < slots; i++) {
            outs += w.slot();
        }
        return outs;
    }

    int unseen() {
        int bits = 0;
        for (Letter l : world.at(0)) {
            if (seen.stream().allMatch(s -> outsWithout(l.number, s[0]) == s[1])) {
                bits += 1 << l.line;
            }
        }
        return bits;
    }

    int keep(int image) {
        if (out(image, 0, 1)) {
            return BAD;
        }
        images[image] = world.copy();
        return world.letters.size();
    }

    int back(int image) {
        if (out(image, 0, 1)) {
            return BAD;
        }
        if (images[image] == null) {
            return STATE;
        }
        world = images[image].copy();
        past.clear();
        return world.letters.size();
    }

    int count(int what) {
        if (out(what, 0, 11)) {
            return BAD;
        }
        if (what >= 5 && what <= 9) {
            return world.at(what - 5).size();
        }
        return switch (what) {
            case 0 -> world.nets;
            case 1 -> world.back;
            case 2 -> world.room;
            case 3 -> world.now;
            case 4 -> world.letters.size();
            case 10 -> seen.size();
            default -> past.size();
        };
    }
}
