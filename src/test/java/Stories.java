import java.util.List;

/** Runs of calls that make objects at the edges of the document: empty, full, at the last slot. */
final class Stories {
    /** images: which are kept, as bits. */
    record Told(String name, Looks.Story story, int images) {}

    private Stories() {}

    static void nothing(LetterFabric x) {}

    static void oneAtALine(LetterFabric x) {
        x.puts(3, 4, 1);
    }

    /** Letters 0 OUT, 1 in a QUEUE, 2 TURNED BACK, 3 DROPPED, 4 at its line; image 0; two SEEN; seven may be UNDONE. */
    static void allPlaces(LetterFabric x) {
        x.tells(2, 1, 9);
        for (int line = 0; line < 4; line++) {
            x.puts(line, 6, 3 - line);
        }
        x.keep(0);
        x.slot();
        x.puts(7, 1, 0);
        x.sees(1, 1);
        x.sees(2, 2);
    }

    /** Eight at LINES, six SEEN (so by lines 6 and 7 alone), both images, ten may be UNDONE. */
    static void fullLines(LetterFabric x) {
        x.slot();
        x.keep(1);
        x.tells(3, 2, 3);
        x.tells(2, 3, 4);
        for (int line = 0; line < 8; line++) {
            x.puts(line, line / 3, line % 4);
        }
        x.keep(0);
        int[] outs = {2, 4, 7, 7, 7, 7};
        for (int n = 1; n <= 6; n++) {
            x.sees(n, outs[n - 1]);
        }
    }

    /** Eight TURNED BACK, eight at LINES, no ROOM. */
    static void sixteenWait(LetterFabric x) {
        x.tells(1, 8, 0);
        for (int i = 0; i < 16; i++) {
            x.puts(i % 8, i % 5, i % 4);
            if (i == 7) {
                x.slot();
            }
        }
    }

    /** 23 in one QUEUE, eight TURNED BACK: as many as there can be. */
    static void longestQueue(LetterFabric x) {
        x.tells(3, 8, 24);
        for (int slot = 0; slot < 13; slot++) {
            for (int line = 0; line < (slot < 11 ? 3 : 8); line++) {
                x.puts(line, 0, 0);
            }
            x.slot();
        }
    }

    /** 64 LETTERS, no more can be put; the lines have none. */
    static void fullOfLetters(LetterFabric x) {
        for (int n = 0; n < 64; n++) {
            x.puts(n % 8, n % 8, n % 4);
            if (n % 8 == 7) {
                x.slot();
            }
        }
        x.keep(1);
    }

    /** 64 LETTERS, the last eight at their lines. */
    static void fullOfLettersAndLines(LetterFabric x) {
        fullOfLetters(x);
        x.undo();
    }

    /** NOW is 99; one letter is TURNED BACK, one at its line. */
    static void lastSlot(LetterFabric x) {
        x.tells(1, 8, 0);
        x.puts(2, 2, 2);
        for (int now = 0; now < 99; now++) {
            x.slot();
        }
        x.puts(5, 2, 2);
        x.keep(0);
    }

    /** As lastSlot, two steps before: the slot and the letter are undone, so that one slot more may go by. */
    static void lastButOneSlot(LetterFabric x) {
        lastSlot(x);
        x.undo();
        x.undo();
    }

    /** An image is there again, nothing can be UNDONE. */
    static void behindBack(LetterFabric x) {
        allPlaces(x);
        x.slot();
        x.slot();
        x.back(0);
    }

    static void behindClear(LetterFabric x) {
        fullLines(x);
        x.slot();
        x.clear();
    }

    static List<Told> all() {
        return List.of(
                new Told("a new object", Stories::nothing, 0),
                new Told("one letter at a line", Stories::oneAtALine, 0),
                new Told("letters at all places", Stories::allPlaces, 1),
                new Told("eight at lines", Stories::fullLines, 3),
                new Told("sixteen wait", Stories::sixteenWait, 0),
                new Told("the longest queue", Stories::longestQueue, 0),
                new Told("64 letters", Stories::fullOfLetters, 2),
                new Told("64 letters and full lines", Stories::fullOfLettersAndLines, 2),
                new Told("the last slot is over", Stories::lastSlot, 1),
                new Told("the last slot but one is over", Stories::lastButOneSlot, 1),
                new Told("behind back", Stories::behindBack, 1),
                new Told("behind clear", Stories::behindClear, 0));
    }
}
