/** Promises 13 to 19: drain, lost, fewest, share, sees, forget, unseen. */
public final class ComeTest {
    private static final int BAD = LetterFabric.BAD, FULL = LetterFabric.FULL, NONE = LetterFabric.NONE;
    private static final int MIN = Integer.MIN_VALUE, MAX = Integer.MAX_VALUE;
    private static final Check CHECK = new Check();

    private static void due(String call, long got, long want) {
        CHECK.due(call, got, want);
    }

    private static LetterFabric eightTo(int address) {
        LetterFabric x = new LetterFabric();
        for (int line = 0; line < 8; line++) {
            x.puts(line, address, line % 4);
        }
        return x;
    }

    private static void promise13Drain() {
        due("drain of none", new LetterFabric().drain(), 0);
        LetterFabric x = eightTo(3);
        due("one a slot", x.drain(), 8);
        due("nothing is changed", x.count(5), 8);
        due("now is not changed", x.count(3), 0);
        due("nothing more to undo", x.count(11), 8);
        x.slot();
        due("one less", x.drain(), 7);
        x.tells(1, 0, 8);
        due("all others dropped", x.drain(), 1);
        x.tells(1, 8, 0);
        due("never", x.drain(), NONE);
        x.tells(1, 0, 0);
        due("all dropped at once", x.drain(), 1);
        x.slot();
        due("all done", x.drain(), 0);
    }

    private static void promise13QueuesToo() {
        LetterFabric x = new LetterFabric();
        x.tells(3, 8, 24);
        for (int line = 0; line < 3; line++) {
            x.puts(line, 1, 0);
        }
        x.slot();
        x.tells(3, 8, 0);
        due("two are in the queue", x.drain(), 2);
        x.puts(0, 2, 0);
        due("but this one never gets in", x.drain(), NONE);
    }

    private static void putTo0(LetterFabric x, int letters, int priority) {
        for (int line = 0; line < letters; line++) {
            x.puts(line, 0, priority);
        }
    }

    /** A queue of 23, 8 turned back, 8 at lines: as much as there can be. */
    private static void promise13Long() {
        LetterFabric x = new LetterFabric();
        x.tells(3, 8, 24);
        for (int slot = 0; slot < 11; slot++) {
            putTo0(x, 3, 0);
            x.slot();
        }
        putTo0(x, 8, 0);
        x.slot();
        putTo0(x, 8, 0);
        x.slot();
        due("in the queue", x.count(7), 23);
        due("turned back", x.count(6), 8);
        due("drain", x.drain(), 31);
        putTo0(x, 8, 3);
        due("one comes in, eight are turned back, seven are lost", x.lost(40), 7);
        due("drain", x.drain(), 32);
    }

    private static void promise14Lost() {
        LetterFabric x = eightTo(6);
        x.tells(1, 2, 8);
        due("lost(0)", x.lost(0), 0);
        due("lost(1)", x.lost(1), 5);
        due("lost(2)", x.lost(2), 5);
        due("lost(40)", x.lost(40), 5);
        due("nothing is changed", x.count(9), 0);
        x.slot();
        due("those that are dropped already do not count", x.lost(40), 0);
        x.tells(1, 0, 8);
        due("one gets out, one is lost", x.lost(1), 1);
        due("lost(-1)", x.lost(-1), BAD);
        due("lost(41)", x.lost(41), BAD);
        due("lost(MIN)", x.lost(MIN), BAD);
        due("lost(MAX)", x.lost(MAX), BAD);
    }

    private static void promise14Later() {
        LetterFabric x = new LetterFabric();
        x.tells(1, 8, 0);
        for (int line = 0; line < 8; line++) {
            x.puts(line, line, 0);
        }
        x.slot();
        x.tells(3, 8, 3);
        x.puts(0, 0, 0);
        x.puts(1, 0, 0);
        x.puts(2, 0, 0);
        x.puts(3, 0, 0);
        due("three come in, eight are turned back, one is lost", x.lost(1), 1);
        due("none later", x.lost(2), 1);
    }

    private static void promise15Fewest() {
        LetterFabric x = eightTo(6);
        due("eight may be turned back", x.fewest(40), 1);
        x.tells(3, 6, 8);
        due("one net less two", x.fewest(1), 2);
        due("nets are as they were", x.count(0), 3);
        due("nothing is changed", x.count(5), 8);
        x.tells(3, 5, 8);
        due("all three", x.fewest(1), 3);
        x.tells(1, 4, 8);
        due("none will do", x.fewest(1), NONE);
        due("but in no slot", x.fewest(0), 1);
        x.slot();
        due("dropped ones do not count", x.fewest(40), 1);
        due("fewest(-1)", x.fewest(-1), BAD);
        due("fewest(41)", x.fewest(41), BAD);
        due("fewest(MIN)", x.fewest(MIN), BAD);
        due("fewest(MAX)", x.fewest(MAX), BAD);
    }

    private static void share(int x, int l, long upper, long lower) {
        LetterFabric f = new LetterFabric();
        due("share(" + x + ", " + l + ", 0)", f.share(x, l, 0), upper);
        due("share(" + x + ", " + l + ", 1)", f.share(x, l, 1), lower);
    }

    private static void promise16Share() {
        share(0, 0, 0, 1);
        share(0, 8, 0, 1);
        share(10, 8, 0, 1);
        share(10, 0, 1, 1);
        share(5, 0, 1, 2);
        share(1, 0, 1, 10);
        share(10, 7, 1, 16777216);
        share(1, 7, 1, 1677721600000000L);
        // of x / 10 come on the average; with l = 1 those are not taken, less the chance that one comes at all
        share(10, 1, 5764801, 16777216);
        share(8, 1, 23046721, 100000000);
        LetterFabric f = new LetterFabric();
        int[][] bad = {{-1, 0, 0}, {11, 0, 0}, {0, -1, 0}, {0, 9, 0}, {0, 0, -1}, {0, 0, 2},
            {MIN, 0, 0}, {MAX, 0, 0}, {0, MIN, 0}, {0, MAX, 0}, {0, 0, MIN}, {0, 0, MAX}};
        for (int[] b : bad) {
            due("share(" + b[0] + ", " + b[1] + ", " + b[2] + ")", f.share(b[0], b[1], b[2]), BAD);
        }
    }

    private static void promise16AsThePlainOne() {
        LetterFabric f = new LetterFabric();
        PlainFabric plain = new PlainFabric();
        for (int x = 0; x <= 10; x++) {
            for (int l = 0; l <= 8; l++) {
                due("share(" + x + ", " + l + ", 0)", f.share(x, l, 0), plain.share(x, l, 0));
                due("share(" + x + ", " + l + ", 1)", f.share(x, l, 1), plain.share(x, l, 1));
            }
        }
    }

    private static void promise17Sees() {
        LetterFabric x = new LetterFabric();
        due("sees(1, 0)", x.sees(1, 0), 1);
        due("sees(40, 64)", x.sees(40, 64), 2);
        due("sees(0, 0)", x.sees(0, 0), BAD);
        due("sees(41, 0)", x.sees(41, 0), BAD);
        due("sees(1, -1)", x.sees(1, -1), BAD);
        due("sees(1, 65)", x.sees(1, 65), BAD);
        due("sees(MIN, 0)", x.sees(MIN, 0), BAD);
        due("sees(MAX, 0)", x.sees(MAX, 0), BAD);
        due("sees(1, MIN)", x.sees(1, MIN), BAD);
        due("sees(1, MAX)", x.sees(1, MAX), BAD);
        for (int size = 3; size <= 6; size++) {
            due("the same again", x.sees(1, 0), size);
        }
        due("a seventh", x.sees(1, 0), FULL);
        due("BAD ahead of FULL", x.sees(0, 0), BAD);
        due("six are seen", x.count(10), 6);
        due("nothing to undo", x.undo(), LetterFabric.STATE);
    }

    private static void promise18Forget() {
        LetterFabric x = new LetterFabric();
        due("nothing seen", x.forget(), 0);
        x.puts(2, 2, 0);
        x.sees(1, 5);
        x.sees(2, 5);
        due("no line", x.unseen(), 0);
        due("two were seen", x.forget(), 2);
        due("nothing seen", x.count(10), 0);
        due("any line", x.unseen(), 4);
        due("nothing seen", x.forget(), 0);
        due("sees anew", x.sees(1, 0), 1);
        due("by line 2", x.unseen(), 4);
    }

    private static void promise19Unseen() {
        LetterFabric x = new LetterFabric();
        due("no letters", x.unseen(), 0);
        x.puts(0, 3, 0);
        x.puts(1, 3, 0);
        x.puts(2, 4, 0);
        x.puts(7, 5, 0);
        due("nothing seen: all lines that have one", x.unseen(), 128 + 4 + 2 + 1);
        x.sees(1, 2);
        due("one address is missing", x.unseen(), 128 + 4);
        x.sees(2, 3);
        due("and so it stays", x.unseen(), 128 + 4);
        x.sees(40, 2);
        due("all can't be so", x.unseen(), 0);
        x.forget();
        x.sees(1, 3);
        x.sees(40, 3);
        due("one of two to one address", x.unseen(), 2 + 1);
        x.sees(40, 4);
        due("not both", x.unseen(), 0);
        due("nothing is changed", x.count(5), 4);
    }

    private static void promise19AsThingsAreNow() {
        LetterFabric x = new LetterFabric();
        x.puts(0, 3, 0);
        x.puts(1, 3, 0);
        x.sees(1, 1);
        due("one of both comes out", x.unseen(), 3);
        x.slot();
        due("no line has a letter", x.unseen(), 0);
        x.puts(5, 3, 3);
        due("that which was turned back comes out", x.unseen(), 32);
        x.puts(6, 2, 0);
        due("two would, without line 5", x.unseen(), 64);
    }

    /** A letter that is not there takes no room and beats nobody. */
    private static void promise19Room() {
        LetterFabric x = new LetterFabric();
        x.tells(1, 0, 1);
        x.puts(0, 0, 0);
        x.puts(1, 7, 0);
        x.sees(1, 1);
        due("the other has the room", x.unseen(), 3);
        x.forget();
        x.sees(1, 0);
        due("never none", x.unseen(), 0);
    }

    public static void main(String[] args) {
        promise13Drain();
        promise13QueuesToo();
        promise13Long();
        promise14Lost();
        promise14Later();
        promise15Fewest();
        promise16Share();
        promise16AsThePlainOne();
        promise17Sees();
        promise18Forget();
        promise19Unseen();
        promise19AsThingsAreNow();
        promise19Room();
        CHECK.end();
    }
}
