/** Promises 7 to 12: letter, line, queue, turned, sorted, straight. */
public final class WhereTest {
    private static final int BAD = LetterFabric.BAD, STATE = LetterFabric.STATE, NONE = LetterFabric.NONE;
    private static final int MIN = Integer.MIN_VALUE, MAX = Integer.MAX_VALUE;
    private static final Check CHECK = new Check();

    private static void due(String call, long got, long want) {
        CHECK.due(call, got, want);
    }

    /** Letters 0 out, 1 in the queue, 2 turned back, 3 dropped (all in slot 1), 4 at its line. */
    private static LetterFabric oneOfEach() {
        LetterFabric x = new LetterFabric();
        x.tells(2, 1, 8);
        x.slot();
        x.puts(3, 6, 3);
        x.puts(2, 6, 2);
        x.puts(1, 6, 1);
        x.puts(0, 6, 0);
        x.slot();
        x.puts(3, 5, 2);
        return x;
    }

    private static void promise7Letter() {
        LetterFabric x = oneOfEach();
        int[][] rows = {
            {3, 3, 6, 3, 1, 1, 0},
            {2, 2, 6, 2, 1, NONE, 0},
            {1, 1, 6, 1, 1, NONE, 1},
            {4, 0, 6, 0, 1, 1, 0},
            {0, 3, 5, 2, 2, NONE, 0},
        };
        for (int n = 0; n < rows.length; n++) {
            for (int what = 0; what < 7; what++) {
                due("letter(" + n + ", " + what + ")", x.letter(n, what), rows[n][what]);
            }
        }
        due("no such letter", x.letter(5, 0), BAD);
        due("letter(-1, 0)", x.letter(-1, 0), BAD);
        due("letter(64, 0)", x.letter(64, 0), BAD);
        due("letter(MAX, 0)", x.letter(MAX, 0), BAD);
        due("letter(MIN, 0)", x.letter(MIN, 0), BAD);
        due("letter(0, -1)", x.letter(0, -1), BAD);
        due("letter(0, 7)", x.letter(0, 7), BAD);
        due("letter(0, MAX)", x.letter(0, MAX), BAD);
        due("letter(0, MIN)", x.letter(0, MIN), BAD);
    }

    private static void promise7Rounds() {
        LetterFabric x = new LetterFabric();
        x.tells(1, 8, 0);
        x.puts(0, 0, 0);
        for (int i = 1; i <= 98; i++) {
            x.slot();
        }
        due("turned back in each slot", x.letter(0, 6), 98);
        x.tells(1, 8, 1);
        due("out in the last slot", x.slot(), 1);
        due("rounds stay", x.letter(0, 6), 98);
        due("out in slot 98", x.letter(0, 5), 98);
    }

    private static void promise8Line() {
        LetterFabric x = oneOfEach();
        due("line(3) has the new one", x.line(3), 4);
        due("a turned back letter is at no line", x.line(1), NONE);
        due("line(0)", x.line(0), NONE);
        due("line(7)", x.line(7), NONE);
        x.puts(7, 0, 0);
        due("line(7)", x.line(7), 5);
        due("line(-1)", x.line(-1), BAD);
        due("line(8)", x.line(8), BAD);
        due("line(MAX)", x.line(MAX), BAD);
        due("line(MIN)", x.line(MIN), BAD);
    }

    private static void promise9Queue() {
        LetterFabric x = new LetterFabric();
        x.tells(3, 8, 24);
        for (int line = 0; line < 6; line++) {
            x.puts(line, line % 2 == 0 ? 0 : 7, line / 2);
        }
        due("two are out", x.slot(), 2);
        due("queue(0, 0)", x.queue(0, 0), 2);
        due("queue(0, 1)", x.queue(0, 1), 0);
        due("queue(0, 2)", x.queue(0, 2), NONE);
        due("queue(7, 0)", x.queue(7, 0), 3);
        due("queue(7, 1)", x.queue(7, 1), 1);
        due("queue(3, 0)", x.queue(3, 0), NONE);
        due("queue(3, MAX)", x.queue(3, MAX), NONE);
        due("queue(0, -1)", x.queue(0, -1), BAD);
        due("queue(0, MIN)", x.queue(0, MIN), BAD);
        due("queue(-1, 0)", x.queue(-1, 0), BAD);
        due("queue(8, 0)", x.queue(8, 0), BAD);
        due("queue(MAX, 0)", x.queue(MAX, 0), BAD);
        due("queue(MIN, 0)", x.queue(MIN, 0), BAD);
    }

    private static void promise10Turned() {
        LetterFabric x = new LetterFabric();
        x.tells(1, 8, 0);
        int[] priorities = {0, 2, 3, 2, 0, 1, 3, 1};
        for (int line = 0; line < 8; line++) {
            x.puts(line, 7 - line, priorities[line]);
        }
        due("none is turned back yet", x.turned(0), NONE);
        x.slot();
        int[] order = {2, 6, 1, 3, 5, 7, 0, 4};
        for (int k = 0; k < 8; k++) {
            due("turned(" + k + ")", x.turned(k), order[k]);
        }
        x.puts(0, 0, 3);
        due("a letter at a line is none of them", x.turned(8), NONE);
        due("turned(MAX)", x.turned(MAX), NONE);
        due("turned(-1)", x.turned(-1), BAD);
        due("turned(MIN)", x.turned(MIN), BAD);
    }

    private static void promise11Sorted() {
        LetterFabric x = new LetterFabric();
        x.tells(1, 8, 0);
        x.puts(6, 4, 0);
        x.puts(7, 1, 1);
        x.slot();
        x.puts(6, 4, 3);
        x.puts(0, 1, 1);
        x.puts(1, 7, 0);
        x.puts(2, 4, 0);
        int[] order = {1, 3, 2, 0, 5, 4};
        for (int k = 0; k < order.length; k++) {
            due("sorted(" + k + ")", x.sorted(k), order[k]);
        }
        due("sorted(6)", x.sorted(6), NONE);
        due("sorted(MAX)", x.sorted(MAX), NONE);
        due("sorted(-1)", x.sorted(-1), BAD);
        due("sorted(MIN)", x.sorted(MIN), BAD);
        x.tells(3, 8, 24);
        x.slot();
        due("what is in queues is not sorted", x.sorted(0), NONE);
        due("though it is there", x.count(7), 3);
    }

    private static void straightOf(int[] addresses, int[] stages) {
        LetterFabric x = new LetterFabric();
        for (int line = 0; line < 8; line++) {
            if (addresses[line] >= 0) {
                x.puts(line, addresses[line], line % 4);
            }
        }
        for (int line = 0; line < 8; line++) {
            due("straight(" + line + ")", x.straight(line), addresses[line] >= 0 ? stages[line] : STATE);
        }
    }

    private static void promise12Straight() {
        straightOf(new int[] {0, 1, 2, 3, 4, 5, 6, 7}, new int[] {0, 0, 0, 0, 0, 0, 0, 0});
        straightOf(new int[] {0, 0, 0, 0, 0, 0, 0, 0}, new int[] {0, 3, 2, 2, 1, 1, 1, 1});
        straightOf(new int[] {7, 7, 7, 7, 7, 7, 7, 7}, new int[] {0, 3, 2, 2, 1, 1, 1, 1});
        straightOf(new int[] {7, 6, 5, 4, 3, 2, 1, 0}, new int[] {0, 0, 0, 0, 0, 0, 0, 0});
        straightOf(new int[] {-1, -1, -1, 5, -1, -1, -1, 5}, new int[] {0, 0, 0, 0, 0, 0, 0, 1});
        // line 4 is blocked by 0 in stage 1, and so in nobody's way any more
        straightOf(new int[] {3, -1, -1, -1, 0, -1, 0, -1}, new int[] {0, 0, 0, 0, 1, 0, 0, 0});
        // 2 and 0 meet behind stage 2, 1 goes on to 1
        straightOf(new int[] {0, 1, 0, -1, -1, -1, -1, -1}, new int[] {0, 0, 2, 0, 0, 0, 0, 0});
    }

    private static void promise12OnlyLines() {
        LetterFabric x = new LetterFabric();
        x.tells(1, 8, 0);
        x.puts(0, 5, 0);
        x.slot();
        x.puts(4, 5, 0);
        due("what is turned back blocks nobody", x.straight(4), 0);
        due("line 0 has none", x.straight(0), STATE);
        due("straight(-1)", x.straight(-1), BAD);
        due("straight(8)", x.straight(8), BAD);
        due("straight(MAX)", x.straight(MAX), BAD);
        due("straight(MIN)", x.straight(MIN), BAD);
    }

    public static void main(String[] args) {
        promise7Letter();
        promise7Rounds();
        promise8Line();
        promise9Queue();
        promise10Turned();
        promise11Sorted();
        promise12Straight();
        promise12OnlyLines();
        CHECK.end();
    }
}
