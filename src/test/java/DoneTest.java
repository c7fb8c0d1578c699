/** Promises 1 to 6: a new object, tells, puts, slot, undo, clear. */
public final class DoneTest {
    private static final int BAD = LetterFabric.BAD, STATE = LetterFabric.STATE;
    private static final int FULL = LetterFabric.FULL, NONE = LetterFabric.NONE;
    private static final int[] NO_NUMBERS = {Integer.MIN_VALUE, -9, -1, Integer.MAX_VALUE};
    private static final Check CHECK = new Check();

    private static void due(String call, long got, long want) {
        CHECK.due(call, got, want);
    }

    private static void asAtFirst(String when, LetterFabric x) {
        int[] counts = {1, 8, 8, 0, 0, 0, 0, 0, 0, 0, 0, 0};
        for (int what = 0; what < counts.length; what++) {
            due(when + ": count(" + what + ")", x.count(what), counts[what]);
        }
        due(when + ": letter(0, 0)", x.letter(0, 0), BAD);
        for (int i = 0; i < 8; i++) {
            due(when + ": line(" + i + ")", x.line(i), NONE);
            due(when + ": queue(" + i + ", 0)", x.queue(i, 0), NONE);
            due(when + ": straight(" + i + ")", x.straight(i), STATE);
        }
        due(when + ": turned(0)", x.turned(0), NONE);
        due(when + ": sorted(0)", x.sorted(0), NONE);
        due(when + ": drain()", x.drain(), 0);
        due(when + ": undo()", x.undo(), STATE);
        due(when + ": unseen()", x.unseen(), 0);
        due(when + ": back(0)", x.back(0), STATE);
        due(when + ": back(1)", x.back(1), STATE);
    }

    private static void promise1NewObject() {
        asAtFirst("new", new LetterFabric());
        LetterFabric one = new LetterFabric();
        one.puts(0, 0, 0);
        one.sees(1, 1);
        one.keep(0);
        asAtFirst("another object is used", new LetterFabric());
    }

    private static void promise2Tells() {
        LetterFabric x = new LetterFabric();
        due("tells what is so at first", x.tells(1, 8, 8), STATE);
        due("tells least", x.tells(1, 0, 0), 1);
        due("tells most", x.tells(3, 8, 24), 1);
        due("tells the same", x.tells(3, 8, 24), STATE);
        due("tells other nets", x.tells(2, 8, 24), 1);
        due("tells other back", x.tells(2, 7, 24), 1);
        due("tells other room", x.tells(2, 7, 23), 1);
        int[][] bad = {{0, 0, 0}, {4, 0, 0}, {1, -1, 0}, {1, 9, 0}, {1, 0, -1}, {1, 0, 25}};
        for (int[] b : bad) {
            due("tells(" + b[0] + ", " + b[1] + ", " + b[2] + ")", x.tells(b[0], b[1], b[2]), BAD);
        }
        for (int no : NO_NUMBERS) {
            due("tells(no number, ..)", x.tells(no, 7, 23), BAD);
            due("tells(.., no number, ..)", x.tells(2, no, 23), BAD);
            due("tells(.., no number)", x.tells(2, 7, no), BAD);
        }
        due("nets stay", x.count(0), 2);
        due("back stays", x.count(1), 7);
        due("room stays", x.count(2), 23);
        due("refused ones can't be undone", x.count(11), 5);
    }

    private static void promise2WhatIsThereStays() {
        LetterFabric x = new LetterFabric();
        x.tells(3, 8, 24);
        for (int line = 0; line < 8; line++) {
            x.puts(line, 4, 0);
        }
        due("one of eight is out", x.slot(), 1);
        due("two in the queue", x.count(7), 2);
        due("five turned back", x.count(6), 5);
        due("less of all", x.tells(1, 2, 1), 1);
        due("two stay in the queue", x.count(7), 2);
        due("five stay turned back", x.count(6), 5);
        due("the queue goes on", x.slot(), 1);
        due("nobody came in", x.count(7), 1);
        due("two may be turned back", x.count(6), 2);
        due("the rest is dropped", x.count(9), 3);
    }

    private static void promise3Puts() {
        LetterFabric x = new LetterFabric();
        due("puts least", x.puts(0, 0, 0), 0);
        due("puts most", x.puts(7, 7, 3), 1);
        due("a line that has one", x.puts(7, 0, 0), STATE);
        due("BAD ahead of STATE", x.puts(7, 8, 0), BAD);
        int[][] bad = {{-1, 0, 0}, {8, 0, 0}, {1, -1, 0}, {1, 8, 0}, {1, 0, -1}, {1, 0, 4}};
        for (int[] b : bad) {
            due("puts(" + b[0] + ", " + b[1] + ", " + b[2] + ")", x.puts(b[0], b[1], b[2]), BAD);
        }
        for (int no : NO_NUMBERS) {
            due("puts(no number, ..)", x.puts(no, 1, 1), BAD);
            due("puts(.., no number, ..)", x.puts(1, no, 1), BAD);
            due("puts(.., no number)", x.puts(1, 1, no), BAD);
        }
        due("two letters", x.count(4), 2);
        due("two may be undone", x.count(11), 2);
        x.slot();
        due("the line is free again", x.puts(7, 3, 2), 2);
    }

    private static LetterFabric withLetters(int letters) {
        LetterFabric x = new LetterFabric();
        for (int n = 0; n < letters; n++) {
            if (n > 0 && n % 8 == 0) {
                due("all eight are out", x.slot(), 8);
            }
            due("puts of letter " + n, x.puts(n % 8, n % 8, 0), n);
        }
        return x;
    }

    private static void promise3Full() {
        LetterFabric x = withLetters(64);
        due("STATE ahead of FULL", x.puts(0, 0, 0), STATE);
        x.slot();
        due("64 are there", x.puts(0, 0, 0), FULL);
        due("BAD ahead of FULL", x.puts(8, 0, 0), BAD);
        due("64 letters", x.count(4), 64);
        due("all are out", x.count(8), 64);
        x.undo();
        due("the last one is at its line", x.line(7), 63);
        x.undo();
        due("its number is free again", x.puts(7, 1, 1), 63);
    }

    /** Steps 1 and 2: who wins, and that a winner without room gives its place to nobody. */
    private static void promise4Winners() {
        LetterFabric x = new LetterFabric();
        x.tells(2, 8, 2);
        x.puts(5, 1, 0);
        x.puts(4, 1, 3);
        x.puts(3, 1, 3);
        x.puts(2, 0, 0);
        due("addresses 0 and 1 are out", x.slot(), 2);
        due("letter 3 of the low address came first", x.letter(3, 0), 3);
        due("letter 1, as high as 2, was put earlier", x.letter(1, 0), 3);
        due("letter 2 won, but found no room", x.letter(2, 0), 1);
        due("it is turned back once", x.letter(2, 6), 1);
        due("letter 0 is beaten", x.letter(0, 0), 1);
        due("turned back, the higher one first", x.turned(0), 2);
        due("then the other", x.turned(1), 0);
    }

    /** Steps 2 and 4: letters come in behind the queue, and room is looked at before anyone is out. */
    private static void promise4Queues() {
        LetterFabric x = new LetterFabric();
        x.tells(3, 8, 3);
        x.puts(0, 2, 0);
        x.puts(1, 2, 0);
        x.puts(2, 2, 0);
        due("one is out", x.slot(), 1);
        x.puts(0, 2, 3);
        x.puts(1, 2, 3);
        due("the next of the queue is out", x.slot(), 1);
        due("though a higher one came", x.letter(1, 0), 3);
        due("which stands behind", x.queue(2, 0), 2);
        due("at the end", x.queue(2, 1), 3);
        due("with no room for the other", x.letter(4, 0), 1);
    }

    /** Step 3: those that are ahead, whatever their addresses, are turned back; rounds count no drop. */
    private static void promise4TurnedBack() {
        LetterFabric x = new LetterFabric();
        x.tells(1, 2, 24);
        x.puts(0, 0, 1);
        x.puts(1, 0, 0);
        x.puts(2, 7, 2);
        x.puts(3, 7, 1);
        x.puts(4, 3, 3);
        x.puts(5, 3, 1);
        due("one of each address is out", x.slot(), 3);
        due("letter 3 is turned back", x.turned(0), 3);
        due("letter 5 is turned back", x.turned(1), 5);
        due("no other", x.turned(2), NONE);
        due("letter 1 is dropped", x.letter(1, 0), 4);
        due("in slot 0", x.letter(1, 5), 0);
        due("never turned back", x.letter(1, 6), 0);
        x.tells(1, 0, 0);
        due("no room", x.slot(), 0);
        due("letter 3 is dropped", x.letter(3, 0), 4);
        due("in slot 1", x.letter(3, 5), 1);
        due("turned back once", x.letter(3, 6), 1);
    }

    private static void promise4Limit() {
        LetterFabric x = new LetterFabric();
        for (int now = 0; now < 99; now++) {
            due("slot " + now, x.slot(), 0);
        }
        due("now is 99", x.count(3), 99);
        due("no slot behind 98", x.slot(), STATE);
        due("now is 99 still", x.count(3), 99);
        due("a letter may be put", x.puts(0, 0, 0), 0);
        due("in slot 99", x.letter(0, 4), 99);
        due("no slot for it", x.slot(), STATE);
        due("what would come is told", x.drain(), 1);
        due("ten may be undone", x.count(11), 10);
    }

    private static void promise5Undo() {
        LetterFabric x = new LetterFabric();
        due("nothing to undo", x.undo(), STATE);
        x.tells(2, 1, 3);
        x.puts(0, 5, 1);
        x.puts(1, 5, 0);
        x.puts(2, 5, 0);
        x.puts(3, 5, 0);
        x.slot();
        due("slot undone", x.undo(), 5);
        due("now", x.count(3), 0);
        due("all at lines", x.count(5), 4);
        due("not ended", x.letter(0, 5), NONE);
        due("not turned", x.letter(2, 6), 0);
        due("not in the queue", x.queue(5, 0), NONE);
        due("puts undone", x.undo(), 4);
        due("no such letter", x.letter(3, 0), BAD);
        due("the line is free", x.line(3), NONE);
        x.undo();
        x.undo();
        due("one more", x.undo(), 1);
        due("tells undone", x.undo(), 0);
        due("nets", x.count(0), 1);
        due("back", x.count(1), 8);
        due("room", x.count(2), 8);
        due("no more", x.undo(), STATE);
    }

    private static void promise5OnlyTen() {
        LetterFabric x = new LetterFabric();
        for (int i = 0; i < 13; i++) {
            x.slot();
        }
        x.puts(9, 0, 0);
        x.sees(1, 0);
        x.keep(1);
        for (int left = 9; left >= 0; left--) {
            due("undo", x.undo(), left);
        }
        due("older ones are lost", x.undo(), STATE);
        due("now", x.count(3), 3);
        due("sees is not undone", x.count(10), 1);
        due("keep is not undone", x.back(1), 0);
        due("the image's slot", x.count(3), 13);
    }

    private static void promise6Clear() {
        LetterFabric x = new LetterFabric();
        due("clear of a new one", x.clear(), 0);
        x.tells(3, 2, 1);
        for (int line = 0; line < 5; line++) {
            x.puts(line, 3, 0);
        }
        x.slot();
        x.sees(2, 2);
        x.keep(0);
        x.keep(1);
        due("clear", x.clear(), 5);
        asAtFirst("cleared", x);
        due("letters begin anew", x.puts(4, 4, 4 - 1), 0);
        due("which was put in slot 0", x.letter(0, 4), 0);
        due("it has no end yet", x.letter(0, 5), NONE);
        due("one may be undone", x.count(11), 1);
    }

    public static void main(String[] args) {
        promise1NewObject();
        promise2Tells();
        promise2WhatIsThereStays();
        promise3Puts();
        promise3Full();
        promise4Winners();
        promise4Queues();
        promise4TurnedBack();
        promise4Limit();
        promise5Undo();
        promise5OnlyTen();
        promise6Clear();
        CHECK.end();
    }
}
