/** A fabric of eight lines that sorts its letters; README.md tells how to use it. */
public final class LetterFabric {
    public static final int BAD = -1, STATE = -2, FULL = -3, NONE = -9;

    private static final int LINES = 8, ADDRESSES = 8, MOST_PRIORITY = 3;
    private static final int MOST_LETTERS = 64, MOST_NETS = 3, MOST_BACK = 8, MOST_ROOM = 24;
    private static final int FIRST_NETS = 1, FIRST_BACK = 8, FIRST_ROOM = 8;
    private static final int LAST_NOW = 99, MOST_DRAIN = 99, MOST_SLOTS = 40;
    private static final int MOST_UNDONE = 10, MOST_SEEN = 6, MOST_OUT = 64, IMAGES = 2;

    private static final int AT_LINE = 0, TURNED_BACK = 1, IN_QUEUE = 2, OUT = 3, DROPPED = 4, PLACES = 5;

    private static final int STAGES = 3;
    private static final int MOST_TENTHS = 10, SHARES_OF_ALL = 10 * ADDRESSES;
    private static final int[] WAYS_TO_CHOOSE_LINES = {1, 8, 28, 56, 70, 56, 28, 8, 1};
    /** The greatest common divisor of two longs takes fewer steps than this. */
    private static final int MOST_DIVISIONS = 200;

    private final Fabric fabric = new Fabric();
    /** What would come is tried on this one, so that nothing is changed. */
    private final Fabric trial = new Fabric();
    private final Sorter sorter = new Sorter();
    private final Past past = new Past();
    private final Sightings seen = new Sightings();
    private final Fabric[] images = new Fabric[IMAGES];
    private final boolean[] kept = new boolean[IMAGES];
    private final int[] netPlaces = new int[LINES];

    public LetterFabric() {
        for (int i = 0; i < IMAGES; i++) {
            images[i] = new Fabric();
        }
    }

    // ---- what is done

    public int tells(int nets, int back, int room) {
        if (!isWithin(nets, 1, MOST_NETS) || !isWithin(back, 0, MOST_BACK) || !isWithin(room, 0, MOST_ROOM)) {
            return BAD;
        }
        if (fabric.nets == nets && fabric.mayTurn == back && fabric.room == room) {
            return STATE;
        }
        past.remember(fabric);
        fabric.nets = nets;
        fabric.mayTurn = back;
        fabric.room = room;
        return 1;
    }

    public int puts(int line, int address, int priority) {
        if (!isLine(line) || !isAddress(address) || !isWithin(priority, 0, MOST_PRIORITY)) {
            return BAD;
        }
        if (fabric.letterAt(line) != NONE) {
            return STATE;
        }
        if (fabric.letters >= MOST_LETTERS) {
            return FULL;
        }
        past.remember(fabric);
        return fabric.addLetter(line, address, priority);
    }

    public int slot() {
        if (fabric.now >= LAST_NOW) {
            return STATE;
        }
        past.remember(fabric);
        int outBefore = fabric.tally[OUT];
        sorter.passSlot(fabric);
        return fabric.tally[OUT] - outBefore;
    }

    public int undo() {
        if (past.known == 0) {
            return STATE;
        }
        past.giveBack(fabric);
        return past.known;
    }

    public int clear() {
        int letters = fabric.letters;
        fabric.begin();
        past.known = 0;
        seen.size = 0;
        for (int i = 0; i < IMAGES; i++) {
            kept[i] = false;
        }
        return letters;
    }

    // ---- where letters are

    public int letter(int n, int what) {
        if (!isWithin(n, 0, fabric.letters - 1)) {
            return BAD;
        }
        switch (what) {
            case 0: return fabric.places[n];
            case 1: return fabric.fromLine[n];
            case 2: return fabric.toAddress[n];
            case 3: return fabric.priorities[n];
            case 4: return fabric.putIn[n];
            case 5: return fabric.endedIn[n];
            case 6: return fabric.rounds[n];
            default: return BAD;
        }
    }

    public int line(int line) {
        return isLine(line) ? fabric.letterAt(line) : BAD;
    }

    public int queue(int address, int k) {
        if (!isAddress(address) || k < 0) {
            return BAD;
        }
        return fabric.queuedLetter(address, k);
    }

    public int turned(int k) {
        if (k < 0) {
            return BAD;
        }
        return sorter.sortTurned(fabric).at(k);
    }

    public int sorted(int k) {
        if (k < 0) {
            return BAD;
        }
        return sorter.sortWaiting(fabric).at(k);
    }

    public int straight(int line) {
        if (!isLine(line)) {
            return BAD;
        }
        if (fabric.letterAt(line) == NONE) {
            return STATE;
        }
        enterNet();
        for (int stage = 1; stage <= STAGES; stage++) {
            passStage(stage);
            if (netPlaces[line] == NONE) {
                return stage;
            }
        }
        return 0;
    }

    // ---- what would come

    public int drain() {
        trial.becomes(fabric);
        for (int slots = 0; slots <= MOST_DRAIN; slots++) {
            if (trial.countLive() == 0) {
                return slots;
            }
            if (!trySlot()) {
                return NONE;
            }
        }
        return NONE;
    }

    public int lost(int n) {
        return isWithin(n, 0, MOST_SLOTS) ? dropsIn(n, fabric.nets) : BAD;
    }

    public int fewest(int n) {
        if (!isWithin(n, 0, MOST_SLOTS)) {
            return BAD;
        }
        for (int nets = 1; nets <= MOST_NETS; nets++) {
            if (dropsIn(n, nets) == 0) {
                return nets;
            }
        }
        return NONE;
    }

    public long share(int x, int l, int what) {
        if (!isWithin(x, 0, MOST_TENTHS) || !isWithin(l, 0, LINES) || !isWithin(what, 0, 1)) {
            return BAD;
        }
        long upper = waysNotTaken(x, l);
        long lower = power(SHARES_OF_ALL, LINES);
        long divisor = commonDivisor(upper, lower);
        if (divisor == 0) {
            return BAD;
        }
        return what == 0 ? upper / divisor : lower / divisor;
    }

    // ---- which line

    public int sees(int n, int m) {
        if (!isWithin(n, 1, MOST_SLOTS) || !isWithin(m, 0, MOST_OUT)) {
            return BAD;
        }
        if (seen.size >= MOST_SEEN) {
            return FULL;
        }
        seen.add(n, m);
        return seen.size;
    }

    public int forget() {
        int size = seen.size;
        seen.size = 0;
        return size;
    }

    public int unseen() {
        int bits = 0;
        for (int line = 0; line < LINES; line++) {
            int letter = fabric.letterAt(line);
            if (letter != NONE && explainsAllSeen(letter)) {
                bits |= 1 << line;
            }
        }
        return bits;
    }

    // ---- images

    public int keep(int image) {
        if (!isWithin(image, 0, IMAGES - 1)) {
            return BAD;
        }
        images[image].becomes(fabric);
        kept[image] = true;
        return fabric.letters;
    }

    public int back(int image) {
        if (!isWithin(image, 0, IMAGES - 1)) {
            return BAD;
        }
        if (!kept[image]) {
            return STATE;
        }
        fabric.becomes(images[image]);
        past.known = 0;
        return fabric.letters;
    }

    public int count(int what) {
        switch (what) {
            case 0: return fabric.nets;
            case 1: return fabric.mayTurn;
            case 2: return fabric.room;
            case 3: return fabric.now;
            case 4: return fabric.letters;
            case 5: return fabric.tally[AT_LINE];
            case 6: return fabric.tally[TURNED_BACK];
            case 7: return fabric.tally[IN_QUEUE];
            case 8: return fabric.tally[OUT];
            case 9: return fabric.tally[DROPPED];
            case 10: return seen.size;
            case 11: return past.known;
            default: return BAD;
        }
    }

    // ---- what the calls share

    private static boolean isWithin(int number, int least, int most) {
        return number >= least && number <= most;
    }

    private static boolean isLine(int number) {
        return isWithin(number, 0, LINES - 1);
    }

    private static boolean isAddress(int number) {
        return isWithin(number, 0, ADDRESSES - 1);
    }

    private void enterNet() {
        for (int line = 0; line < LINES; line++) {
            netPlaces[line] = fabric.letterAt(line) == NONE ? NONE : line;
        }
    }

    /** Lines are gone through from the lowest on: where two meet, the lower one has the place already. */
    private void passStage(int stage) {
        int bit = 1 << (STAGES - stage);
        int taken = 0;
        for (int line = 0; line < LINES; line++) {
            int letter = fabric.letterAt(line);
            if (letter == NONE || netPlaces[line] == NONE) {
                continue;
            }
            int place = (netPlaces[line] & ~bit) | (fabric.toAddress[letter] & bit);
            boolean blocked = (taken & (1 << place)) != 0;
            netPlaces[line] = blocked ? NONE : place;
            taken |= 1 << place;
        }
    }

    /**
     * Whether a letter came out or was dropped. If none was, none ever will be: the queues are empty
     * and nothing finds room, so each later slot turns back the same letters.
     */
    private boolean trySlot() {
        int live = trial.countLive();
        sorter.passSlot(trial);
        return trial.countLive() != live;
    }

    private int dropsIn(int slots, int nets) {
        trial.becomes(fabric);
        trial.nets = nets;
        boolean goesOn = true;
        for (int i = 0; i < slots && goesOn; i++) {
            goesOn = trySlot();
        }
        return trial.tally[DROPPED] - fabric.tally[DROPPED];
    }

    private boolean explainsAllSeen(int missing) {
        trial.becomes(fabric);
        trial.moveLetter(missing, DROPPED);
        int slots = seen.longest();
        boolean goesOn = true;
        for (int i = 1; i <= slots; i++) {
            if (goesOn) {
                goesOn = trySlot();
            }
            if (!seen.allows(i, trial.tally[OUT] - fabric.tally[OUT])) {
                return false;
            }
        }
        return true;
    }

    /** Letters not taken, over all equally likely cases: each line chooses one of 80, x of them this address. */
    private static long waysNotTaken(int x, int l) {
        long ways = 0;
        for (int come = l + 1; come <= LINES; come++) {
            long cases = WAYS_TO_CHOOSE_LINES[come] * power(x, come) * power(SHARES_OF_ALL - x, LINES - come);
            ways += (come - l) * cases;
        }
        return ways;
    }

    private static long power(long base, int exponent) {
        long product = 1;
        for (int i = 0; i < exponent; i++) {
            product *= base;
        }
        return product;
    }

    private static long commonDivisor(long a, long b) {
        long divisor = a;
        long rest = b;
        for (int i = 0; i < MOST_DIVISIONS && rest != 0; i++) {
            long next = divisor % rest;
            divisor = rest;
            rest = next;
        }
        return divisor;
    }

    /** Numbers of letters, one behind the other. */
    private static final class Row {
        final int[] numbers = new int[MOST_LETTERS];
        int size;

        void becomes(Row other) {
            System.arraycopy(other.numbers, 0, numbers, 0, other.size);
            size = other.size;
        }

        int at(int k) {
            return k >= 0 && k < size ? numbers[k] : NONE;
        }

        void add(int number) {
            if (size < MOST_LETTERS) {
                numbers[size] = number;
                size++;
            }
        }

        /** Keeps a row in order that has been filled by this method alone. */
        void addInOrder(int number, Fabric fabric, boolean byAddress) {
            if (size >= MOST_LETTERS) {
                return;
            }
            int k = size;
            while (k > 0 && fabric.goesBefore(number, numbers[k - 1], byAddress)) {
                numbers[k] = numbers[k - 1];
                k--;
            }
            numbers[k] = number;
            size++;
        }
    }

    /** All that puts, slots and tells change: undo gives back the whole of it, and images keep it. */
    private static final class Fabric {
        int nets = FIRST_NETS;
        int mayTurn = FIRST_BACK;
        int room = FIRST_ROOM;
        int now;
        int letters;
        final int[] places = new int[MOST_LETTERS];
        final int[] fromLine = new int[MOST_LETTERS];
        final int[] toAddress = new int[MOST_LETTERS];
        final int[] priorities = new int[MOST_LETTERS];
        final int[] putIn = new int[MOST_LETTERS];
        final int[] endedIn = new int[MOST_LETTERS];
        final int[] rounds = new int[MOST_LETTERS];
        /** How many letters are at each kind of place. */
        final int[] tally = new int[PLACES];
        /** The letters of all queues as they came: those of one address are its queue. */
        final Row queued = new Row();

        void begin() {
            nets = FIRST_NETS;
            mayTurn = FIRST_BACK;
            room = FIRST_ROOM;
            now = 0;
            letters = 0;
            queued.size = 0;
            for (int place = 0; place < PLACES; place++) {
                tally[place] = 0;
            }
        }

        void becomes(Fabric other) {
            nets = other.nets;
            mayTurn = other.mayTurn;
            room = other.room;
            now = other.now;
            letters = other.letters;
            System.arraycopy(other.places, 0, places, 0, letters);
            System.arraycopy(other.fromLine, 0, fromLine, 0, letters);
            System.arraycopy(other.toAddress, 0, toAddress, 0, letters);
            System.arraycopy(other.priorities, 0, priorities, 0, letters);
            System.arraycopy(other.putIn, 0, putIn, 0, letters);
            System.arraycopy(other.endedIn, 0, endedIn, 0, letters);
            System.arraycopy(other.rounds, 0, rounds, 0, letters);
            System.arraycopy(other.tally, 0, tally, 0, PLACES);
            queued.becomes(other.queued);
        }

        int addLetter(int line, int address, int priority) {
            if (letters >= MOST_LETTERS) {
                return FULL;
            }
            int n = letters;
            letters++;
            places[n] = AT_LINE;
            tally[AT_LINE]++;
            fromLine[n] = line;
            toAddress[n] = address;
            priorities[n] = priority;
            putIn[n] = now;
            endedIn[n] = NONE;
            rounds[n] = 0;
            return n;
        }

        int letterAt(int line) {
            for (int n = 0; n < letters; n++) {
                if (places[n] == AT_LINE && fromLine[n] == line) {
                    return n;
                }
            }
            return NONE;
        }

        int queuedLetter(int address, int k) {
            int before = 0;
            for (int i = 0; i < queued.size; i++) {
                int n = queued.numbers[i];
                if (toAddress[n] != address) {
                    continue;
                }
                if (before == k) {
                    return n;
                }
                before++;
            }
            return NONE;
        }

        int countLive() {
            return tally[AT_LINE] + tally[TURNED_BACK] + tally[IN_QUEUE];
        }

        void moveLetter(int n, int place) {
            tally[places[n]]--;
            places[n] = place;
            tally[place]++;
        }

        boolean goesBefore(int a, int b, boolean byAddress) {
            if (byAddress && toAddress[a] != toAddress[b]) {
                return toAddress[a] < toAddress[b];
            }
            if (priorities[a] != priorities[b]) {
                return priorities[a] > priorities[b];
            }
            return a < b;
        }
    }

    /** Lets a slot go by on a fabric; its rows are made once, for all slots. */
    private static final class Sorter {
        final Row waiting = new Row();
        final Row beaten = new Row();

        Row sortWaiting(Fabric fabric) {
            waiting.size = 0;
            for (int n = 0; n < fabric.letters; n++) {
                if (fabric.places[n] == AT_LINE || fabric.places[n] == TURNED_BACK) {
                    waiting.addInOrder(n, fabric, true);
                }
            }
            return waiting;
        }

        Row sortTurned(Fabric fabric) {
            waiting.size = 0;
            for (int n = 0; n < fabric.letters; n++) {
                if (fabric.places[n] == TURNED_BACK) {
                    waiting.addInOrder(n, fabric, false);
                }
            }
            return waiting;
        }

        void passSlot(Fabric fabric) {
            sortWaiting(fabric);
            letWinnersIn(fabric);
            turnBackBeaten(fabric);
            letFirstsOut(fabric);
            fabric.now++;
        }

        private void letWinnersIn(Fabric fabric) {
            beaten.size = 0;
            int address = NONE;
            int sameBefore = 0;
            for (int i = 0; i < waiting.size; i++) {
                int n = waiting.numbers[i];
                sameBefore = fabric.toAddress[n] == address ? sameBefore + 1 : 0;
                address = fabric.toAddress[n];
                if (sameBefore < fabric.nets && fabric.queued.size < fabric.room) {
                    fabric.queued.add(n);
                    fabric.moveLetter(n, IN_QUEUE);
                } else {
                    beaten.addInOrder(n, fabric, false);
                }
            }
        }

        private void turnBackBeaten(Fabric fabric) {
            for (int i = 0; i < beaten.size; i++) {
                int n = beaten.numbers[i];
                if (i < fabric.mayTurn) {
                    fabric.moveLetter(n, TURNED_BACK);
                    fabric.rounds[n]++;
                } else {
                    endLetter(fabric, n, DROPPED);
                }
            }
        }

        private void letFirstsOut(Fabric fabric) {
            Row queued = fabric.queued;
            int served = 0;
            int left = 0;
            for (int i = 0; i < queued.size; i++) {
                int n = queued.numbers[i];
                int bit = 1 << fabric.toAddress[n];
                if ((served & bit) == 0) {
                    served |= bit;
                    endLetter(fabric, n, OUT);
                } else {
                    queued.numbers[left] = n;
                    left++;
                }
            }
            queued.size = left;
        }

        private void endLetter(Fabric fabric, int n, int place) {
            fabric.moveLetter(n, place);
            fabric.endedIn[n] = fabric.now;
        }
    }

    /** The fabric as it was before each of the latest changes, in a ring. */
    private static final class Past {
        final Fabric[] ring = new Fabric[MOST_UNDONE];
        int next;
        int known;

        Past() {
            for (int i = 0; i < MOST_UNDONE; i++) {
                ring[i] = new Fabric();
            }
        }

        void remember(Fabric fabric) {
            ring[next].becomes(fabric);
            next = next < MOST_UNDONE - 1 ? next + 1 : 0;
            known = Math.min(known + 1, MOST_UNDONE);
        }

        void giveBack(Fabric fabric) {
            next = next > 0 ? next - 1 : MOST_UNDONE - 1;
            fabric.becomes(ring[next]);
            known = Math.max(known - 1, 0);
        }
    }

    /** What was seen: in so many slots so many letters come out. */
    private static final class Sightings {
        final int[] slots = new int[MOST_SEEN];
        final int[] outs = new int[MOST_SEEN];
        int size;

        void add(int n, int m) {
            if (size < MOST_SEEN) {
                slots[size] = n;
                outs[size] = m;
                size++;
            }
        }

        int longest() {
            int longest = 0;
            for (int i = 0; i < size; i++) {
                longest = Math.max(longest, slots[i]);
            }
            return longest;
        }

        boolean allows(int n, int m) {
            for (int i = 0; i < size; i++) {
                if (slots[i] == n && outs[i] != m) {
                    return false;
                }
            }
            return true;
        }
    }
}
