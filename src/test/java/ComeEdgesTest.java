import java.math.BigInteger;

/** The edges of what would come: drain, lost, fewest, share; and of what was seen: sees, forget, unseen. */
public final class ComeEdgesTest {
    private static final int BAD = LetterFabric.BAD, STATE = LetterFabric.STATE;
    private static final int FULL = LetterFabric.FULL, NONE = LetterFabric.NONE;
    private static final int MIN = Integer.MIN_VALUE, MAX = Integer.MAX_VALUE;
    private static final int[] FAR = {MIN, MIN + 1, -256, -9, -2, 256, 1 << 16, MAX - 1, MAX};
    private static final Check CHECK = new Check();

    private static void due(String call, long got, long want) {
        CHECK.due(call, got, want);
    }

    private static boolean within(int number, int least, int most) {
        return number >= least && number <= most;
    }

    private static LetterFabric with(int nets, int back, int room) {
        LetterFabric x = new LetterFabric();
        if (nets != 1 || back != 8 || room != 8) {
            due("tells", x.tells(nets, back, room), 1);
        }
        return x;
    }

    private static void putOnLines(LetterFabric x, int letters, int address) {
        for (int line = 0; line < letters; line++) {
            x.puts(line, address, 0);
        }
    }

    // ---- drain

    private static void drainOfNone() {
        CHECK.sentence("DRAIN: the fewest SLOTS (0 .. 99) behind which each LETTER is OUT or DROPPED");
        LetterFabric x = new LetterFabric();
        due("no LETTERS", x.drain(), 0);
        x.puts(0, 0, 0);
        due("one at a LINE", x.drain(), 1);
        x.slot();
        due("all OUT", x.drain(), 0);
        x.tells(1, 0, 0);
        x.puts(0, 0, 0);
        due("one that will be DROPPED", x.drain(), 1);
        x.slot();
        due("OUT or DROPPED", x.drain(), 0);
        x.tells(1, 1, 0);
        x.puts(0, 0, 0);
        due("one that will be TURNED BACK for ever", x.drain(), NONE);
        x.slot();
        due("that is TURNED BACK", x.drain(), NONE);
        x.tells(1, 1, 1);
        due("there is ROOM for it", x.drain(), 1);
    }

    private static void drainOfOneAddress() {
        CHECK.sentence("DRAIN: the fewest SLOTS (0 .. 99) behind which each LETTER is OUT or DROPPED");
        for (int nets = 1; nets <= 3; nets++) {
            for (int letters = 1; letters <= 8; letters++) {
                for (int back = 0; back <= 8; back++) {
                    LetterFabric x = with(nets, back, 24);
                    putOnLines(x, letters, 2);
                    int stay = Math.min(letters, Math.min(nets, letters) + back);
                    String when = "NETS " + nets + ", LETTERS " + letters + ", BACK " + back;
                    due(when + "; drain()", x.drain(), stay);
                    for (int left = stay - 1; left >= 0; left--) {
                        x.slot();
                        due(when + "; drain() behind a slot", x.drain(), left);
                    }
                }
            }
        }
    }

    /** Without ROOM what is in queues comes out still; what waits never does, unless it may not wait. */
    private static void drainWithoutRoom() {
        CHECK.sentence("DRAIN .. ; NONE");
        LetterFabric x = with(3, 8, 24);
        putOnLines(x, 3, 6);
        x.slot();
        x.tells(3, 8, 0);
        due("two in the QUEUE", x.drain(), 2);
        x.puts(0, 1, 0);
        due("one more waits", x.drain(), NONE);
        x.tells(3, 0, 0);
        due("it may not wait", x.drain(), 2);
        x.slot();
        due("one in the QUEUE", x.drain(), 1);
        x.slot();
        due("none", x.drain(), 0);
    }

    private static void theLongestDrain() {
        CHECK.sentence("DRAIN: the fewest SLOTS (0 .. 99)");
        LetterFabric x = Looks.made(Stories::longestQueue);
        int dropped = x.count(9);
        due("23 in the QUEUE, 8 TURNED BACK", x.drain(), 31);
        putOnLines(x, 1, 0);
        due("one at a LINE", x.drain(), 32);
        for (int line = 1; line < 8; line++) {
            x.puts(line, 0, 0);
            due("one more is DROPPED", x.drain(), 32);
            due("it is lost", x.lost(1), line);
        }
        for (int left = 31; left >= 0; left--) {
            due("one is OUT", x.slot(), 1);
            due("drain()", x.drain(), left);
        }
        due("DROPPED", x.count(9), dropped + 7);
    }

    /** Only slot() is refused when NOW is 99. */
    private static void lookedAheadBehindTheLastSlot() {
        CHECK.sentence("(What follows is as things are NOW, nothing more being put; nothing is changed.)");
        LetterFabric x = with(1, 2, 8);
        for (int now = 0; now < 99; now++) {
            x.slot();
        }
        putOnLines(x, 4, 2);
        due("slot()", x.slot(), STATE);
        due("drain()", x.drain(), 3);
        due("lost(1)", x.lost(1), 1);
        due("lost(40)", x.lost(40), 1);
        due("fewest(1)", x.fewest(1), 2);
        due("fewest(40)", x.fewest(40), 2);
        x.sees(40, 3);
        due("unseen()", x.unseen(), 15);
        due("NOW", x.count(3), 99);
        due("at LINES", x.count(5), 4);
    }

    // ---- lost, fewest

    private static void slotsLookedAhead() {
        CHECK.sentence("LOST in n SLOTS (0 .. 40); FEWEST for n SLOTS (0 .. 40); BAD");
        LetterFabric x = with(2, 3, 8);
        putOnLines(x, 8, 5);
        for (int n = -2; n <= 42; n++) {
            due("lost(" + n + ")", x.lost(n), !within(n, 0, 40) ? BAD : n == 0 ? 0 : 3);
            due("fewest(" + n + ")", x.fewest(n), !within(n, 0, 40) ? BAD : n == 0 ? 1 : NONE);
        }
        for (int far : FAR) {
            due("lost(" + far + ")", x.lost(far), BAD);
            due("fewest(" + far + ")", x.fewest(far), BAD);
        }
        LetterFabric empty = new LetterFabric();
        for (int n = 0; n <= 40; n++) {
            due("of none: lost(" + n + ")", empty.lost(n), 0);
            due("of none: fewest(" + n + ")", empty.fewest(n), 1);
        }
    }

    private static void mostAreLost() {
        CHECK.sentence("LOST in n SLOTS: how many would be DROPPED in these");
        for (int back = 0; back <= 8; back++) {
            LetterFabric x = Looks.made(Stories::sixteenWait);
            if (back != 8) {
                x.tells(1, back, 0);
            }
            due("BACK " + back + "; lost(0)", x.lost(0), 0);
            due("BACK " + back + "; lost(1)", x.lost(1), 16 - back);
            due("BACK " + back + "; lost(40)", x.lost(40), 16 - back);
            due("BACK " + back + "; DROPPED", x.count(9), 0);
            x.slot();
            due("BACK " + back + "; DROPPED", x.count(9), 16 - back);
            due("BACK " + back + "; none more", x.lost(40), 0);
        }
    }

    private static void fewestOf(int nets, int letters, int back, int room) {
        LetterFabric x = with(nets, back, room);
        putOnLines(x, letters, 4);
        int fewest = NONE;
        for (int n = 3; n >= 1; n--) {
            int come = Math.min(Math.min(n, room), letters);
            fewest = letters - come <= back ? n : fewest;
        }
        String when = "NETS " + nets + ", LETTERS " + letters + ", BACK " + back + ", ROOM " + room;
        due(when + "; fewest(1)", x.fewest(1), fewest);
        due(when + "; fewest(40)", x.fewest(40), fewest);
        due(when + "; fewest(0)", x.fewest(0), 1);
        due(when + "; NETS stay", x.count(0), nets);
    }

    private static void theFewestNets() {
        CHECK.sentence("FEWEST for n: the least NETS (1 .. 3) by which none would; NONE");
        for (int nets = 1; nets <= 3; nets++) {
            for (int letters = 0; letters <= 8; letters++) {
                for (int back = 0; back <= 8; back++) {
                    for (int room : new int[] {0, 1, 2, 3, 4, 24}) {
                        fewestOf(nets, letters, back, room);
                    }
                }
            }
        }
    }

    private static void whatIsDroppedAlreadyDoesNotCount() {
        CHECK.sentence("LOST .. how many would be DROPPED in these; FEWEST .. by which none would");
        LetterFabric x = with(1, 0, 0);
        putOnLines(x, 8, 4);
        due("lost(1)", x.lost(1), 8);
        due("fewest(1)", x.fewest(1), NONE);
        x.slot();
        due("DROPPED", x.count(9), 8);
        due("lost(40)", x.lost(40), 0);
        due("fewest(40)", x.fewest(40), 1);
        x.undo();
        due("UNDONE: lost(1)", x.lost(1), 8);
    }

    // ---- share

    private static BigInteger power(int base, int exponent) {
        return BigInteger.valueOf(base).pow(exponent);
    }

    private static void fraction(int x, int l, BigInteger upper, BigInteger lower) {
        LetterFabric f = new LetterFabric();
        BigInteger common = upper.gcd(lower);
        due("share(" + x + ", " + l + ", 0)", f.share(x, l, 0), upper.divide(common).longValueExact());
        due("share(" + x + ", " + l + ", 1)", f.share(x, l, 1), lower.divide(common).longValueExact());
    }

    /** l 0: all that come are not taken; 8: none; 7: one, if all eight come; 1: all but the chance that any comes. */
    private static void endsOfShare() {
        CHECK.sentence("SHARE of x, l (x 0 .. 10, l 0 .. 8): .. a fraction in least terms");
        BigInteger all = power(80, 8);
        for (int x = 0; x <= 10; x++) {
            BigInteger tenths = BigInteger.valueOf(x);
            BigInteger anyComes = all.subtract(power(80 - x, 8));
            fraction(x, 0, tenths, BigInteger.TEN);
            fraction(x, 1, all.divide(BigInteger.TEN).multiply(tenths).subtract(anyComes), all);
            fraction(x, 7, power(x, 8), all);
            fraction(x, 8, BigInteger.ZERO, BigInteger.ONE);
        }
    }

    private static void sharesFallByWhatIsTaken() {
        CHECK.sentence("an ADDRESS takes l of those that come to it");
        LetterFabric f = new LetterFabric();
        for (int x = 1; x <= 10; x++) {
            for (int l = 0; l < 8; l++) {
                double more = (double) f.share(x, l, 0) / f.share(x, l, 1);
                double less = (double) f.share(x, l + 1, 0) / f.share(x, l + 1, 1);
                CHECK.holds("share of " + x + ", " + l + " is more than of " + (l + 1), more > less);
            }
        }
    }

    private static void refusedShares() {
        CHECK.sentence("SHARE of x, l (x 0 .. 10, l 0 .. 8); upper (what = 0), lower number (1). BAD");
        LetterFabric f = null;
        for (int x = -2; x <= 12; x++) {
            f = new LetterFabric();
            for (int l = -2; l <= 10; l++) {
                for (int what = -1; what <= 2; what++) {
                    boolean good = within(x, 0, 10) && within(l, 0, 8) && within(what, 0, 1);
                    long got = f.share(x, l, what);
                    String call = "share(" + x + ", " + l + ", " + what + ")";
                    CHECK.holds(call + " answered " + got, good ? got >= 0 : got == BAD);
                }
            }
        }
        for (int far : FAR) {
            due("share(" + far + ", 0, 0)", f.share(far, 0, 0), BAD);
            due("share(0, " + far + ", 0)", f.share(0, far, 0), BAD);
            due("share(0, 0, " + far + ")", f.share(0, 0, far), BAD);
        }
    }

    /** What is put, and the nets, have no part in it. */
    private static void shareOfAnyFabric() {
        CHECK.sentence("SHARE of x, l: in each SLOT each LINE has a LETTER by x of 10, for itself");
        for (Stories.Told told : Stories.all()) {
            LetterFabric x = Looks.made(told.story());
            due(told.name() + "; share(10, 1, 0)", x.share(10, 1, 0), 5764801);
            due(told.name() + "; share(10, 1, 1)", x.share(10, 1, 1), 16777216);
        }
    }

    // ---- sees, forget

    private static void whatMayBeSeen() {
        CHECK.sentence("SEEN: in the next n SLOTS (1 .. 40) m LETTERS .. ; BAD (m 0 .. 64)");
        for (int n = -1; n <= 42; n++) {
            for (int m = -2; m <= 66; m++) {
                LetterFabric x = new LetterFabric();
                boolean good = within(n, 1, 40) && within(m, 0, 64);
                due("sees(" + n + ", " + m + ")", x.sees(n, m), good ? 1 : BAD);
                due("sees(" + n + ", " + m + "); SEEN", x.count(10), good ? 1 : 0);
            }
        }
        LetterFabric x = new LetterFabric();
        for (int far : FAR) {
            due("sees(" + far + ", 0)", x.sees(far, 0), BAD);
            due("sees(1, " + far + ")", x.sees(1, far), BAD);
        }
    }

    private static void sixAreSeen() {
        CHECK.sentence("SEEN (6 at most): how much there is; FULL: 6");
        LetterFabric x = new LetterFabric();
        for (int round = 0; round < 3; round++) {
            for (int size = 1; size <= 6; size++) {
                due("sees", x.sees(size, round), size);
                due("SEEN", x.count(10), size);
            }
            due("a seventh", x.sees(1, 0), FULL);
            due("another", x.sees(40, 64), FULL);
            due("SEEN", x.count(10), 6);
            due("forget", x.forget(), 6);
            due("SEEN", x.count(10), 0);
            due("forget again", x.forget(), 0);
        }
        for (int size = 0; size <= 6; size++) {
            for (int i = 0; i < size; i++) {
                x.sees(7, 7);
            }
            due("forget", x.forget(), size);
        }
        putSix(x);
        x.clear();
        due("SEEN behind clear", x.count(10), 0);
        due("sees", x.sees(1, 1), 1);
    }

    private static void putSix(LetterFabric x) {
        for (int i = 0; i < 6; i++) {
            x.sees(1, 1);
        }
    }

    /** The seventh is refused, and so has no part in what is looked for. */
    private static void theSeventhIsNotSeen() {
        CHECK.sentence("SEEN (6 at most) .. FULL: 6");
        LetterFabric x = new LetterFabric();
        x.puts(0, 0, 0);
        x.puts(1, 1, 0);
        putSix(x);
        due("unseen()", x.unseen(), 3);
        due("sees(1, 64)", x.sees(1, 64), FULL);
        due("sees(2, 0)", x.sees(2, 0), FULL);
        due("unseen()", x.unseen(), 3);
    }

    // ---- unseen

    private static void nothingWasSeen() {
        CHECK.sentence("one unknown LINE (that has one); UNSEEN: LINES (bits) by which all that was SEEN is so");
        for (int set = 0; set < 256; set++) {
            LetterFabric x = new LetterFabric();
            for (int line = 0; line < 8; line++) {
                if ((set & 1 << line) != 0) {
                    x.puts(line, 7 - line, 0);
                }
            }
            int others = Math.max(0, Integer.bitCount(set) - 1);
            due("LINES " + set + ", nothing SEEN", x.unseen(), set);
            x.sees(1, others);
            due("LINES " + set + ", all others come OUT", x.unseen(), set);
            x.forget();
            x.sees(1, others + 1);
            due("LINES " + set + ", too many come OUT", x.unseen(), 0);
            x.slot();
            due("no LINE has one", x.unseen(), 0);
        }
    }

    /** That of one line goes where no other does. */
    private static void oneLineIsDead() {
        CHECK.sentence("UNSEEN: LINES (bits) by which all that was SEEN is so");
        for (int dead = 0; dead < 8; dead++) {
            LetterFabric x = new LetterFabric();
            for (int line = 0; line < 8; line++) {
                x.puts(line, line == dead ? 0 : 1, 0);
            }
            x.sees(1, 1);
            due("line " + dead, x.unseen(), 1 << dead);
            x.sees(8, 7);
            due("line " + dead, x.unseen(), 1 << dead);
            x.forget();
            x.sees(1, 2);
            due("not line " + dead, x.unseen(), 255 - (1 << dead));
            x.sees(1, 1);
            due("both can't be", x.unseen(), 0);
        }
    }

    private static void eachOfSixCounts() {
        CHECK.sentence("UNSEEN: .. by which all that was SEEN is so");
        for (int wrong = -1; wrong < 6; wrong++) {
            LetterFabric x = new LetterFabric();
            putOnLines(x, 8, 3);
            for (int i = 0; i < 6; i++) {
                x.sees(i + 1, i == wrong ? i + 2 : i + 1);
            }
            due("the one that is not so: " + wrong, x.unseen(), wrong < 0 ? 255 : 0);
        }
    }

    /** 23 in the queue, 8 turned back, one at line 5: without it 31 come out, one in each slot. */
    private static void asFarAsFortySlots() {
        CHECK.sentence("in the next n SLOTS (1 .. 40) m LETTERS would come OUT");
        for (int n = 1; n <= 40; n++) {
            LetterFabric x = Looks.made(Stories::longestQueue);
            x.puts(5, 0, 0);
            int outs = Math.min(n, 31);
            for (int m = outs - 1; m <= outs + 1; m++) {
                x.sees(n, m);
                due("sees(" + n + ", " + m + ")", x.unseen(), m == outs ? 32 : 0);
                x.forget();
            }
            x.sees(1, 1);
            x.sees(n, outs);
            x.sees(40, 31);
            due("three SEEN", x.unseen(), 32);
        }
    }

    private static void noneOrAllComeOut() {
        CHECK.sentence("m 0 .. 64");
        LetterFabric x = with(1, 8, 0);
        putOnLines(x, 8, 3);
        x.sees(1, 0);
        x.sees(40, 0);
        due("without ROOM none comes OUT", x.unseen(), 255);
        x.tells(1, 8, 1);
        due("with ROOM one does", x.unseen(), 0);
        x.forget();
        x.sees(40, 64);
        due("64 never do", x.unseen(), 0);
    }

    /** The letter that is not there gives its place, its ROOM and its turn to others. */
    private static void anotherComesInItsPlace() {
        CHECK.sentence("if that of one unknown LINE were not there");
        LetterFabric x = with(1, 0, 24);
        x.puts(2, 6, 3);
        x.puts(4, 6, 0);
        x.sees(1, 1);
        x.sees(2, 1);
        due("one is OUT, whichever is not there", x.unseen(), 16 + 4);
        x.tells(1, 1, 24);
        due("as things are NOW", x.unseen(), 16 + 4);
        x.puts(7, 6, 0);
        due("of three two come OUT in two slots", x.unseen(), 0);
        x.forget();
        x.sees(2, 2);
        due("which was SEEN", x.unseen(), 128 + 16 + 4);
        due("nothing is changed", x.count(5), 3);
    }

    public static void main(String[] args) {
        drainOfNone();
        drainOfOneAddress();
        drainWithoutRoom();
        theLongestDrain();
        lookedAheadBehindTheLastSlot();
        slotsLookedAhead();
        mostAreLost();
        theFewestNets();
        whatIsDroppedAlreadyDoesNotCount();
        endsOfShare();
        sharesFallByWhatIsTaken();
        refusedShares();
        shareOfAnyFabric();
        whatMayBeSeen();
        sixAreSeen();
        theSeventhIsNotSeen();
        nothingWasSeen();
        oneLineIsDead();
        eachOfSixCounts();
        asFarAsFortySlots();
        noneOrAllComeOut();
        anotherComesInItsPlace();
        CHECK.end();
    }
}
