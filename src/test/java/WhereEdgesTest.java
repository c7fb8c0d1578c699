/** The edges of letter, line, queue, turned, sorted, straight, count: the last that is there, the first that is not. */
public final class WhereEdgesTest {
    private static final int BAD = LetterFabric.BAD, STATE = LetterFabric.STATE, NONE = LetterFabric.NONE;
    private static final int MIN = Integer.MIN_VALUE, MAX = Integer.MAX_VALUE;
    private static final int[] FAR = {MIN, MIN + 1, -256, -9, -2, 256, 1 << 16, MAX - 1, MAX};
    private static final Check CHECK = new Check();

    private static void due(String call, long got, long want) {
        CHECK.due(call, got, want);
    }

    // ---- letter

    private static LetterFabric withLetters(int letters) {
        LetterFabric x = new LetterFabric();
        for (int n = 0; n < letters; n++) {
            x.puts(n % 8, n % 8, n % 4);
            if (n % 8 == 7) {
                x.slot();
            }
        }
        return x;
    }

    private static void theLastLetterAndTheNext() {
        CHECK.sentence("Of a LETTER: .. BAD (there is no such thing)");
        for (int letters = 0; letters <= 64; letters++) {
            LetterFabric x = withLetters(letters);
            for (int what = 0; what <= 6; what++) {
                String call = letters + " LETTERS; what " + what;
                due(call + ", LETTER -1", x.letter(-1, what), BAD);
                due(call + ", the next one", x.letter(letters, what), BAD);
                due(call + ", the one behind it", x.letter(letters + 1, what), BAD);
                CHECK.holds(call + ", the last one", letters == 0 || x.letter(letters - 1, what) != BAD);
                CHECK.holds(call + ", the first one", letters == 0 || x.letter(0, what) != BAD);
                for (int far : FAR) {
                    due(call + ", LETTER " + far, x.letter(far, what), BAD);
                }
            }
        }
    }

    private static void whatOfALetter() {
        CHECK.sentence("Of a LETTER: 0 .. 6; BAD (a number is not as told)");
        LetterFabric x = withLetters(3);
        for (int n = 0; n < 3; n++) {
            int[] whole = {0, n, n, n, 0, NONE, 0};
            for (int what = 0; what <= 6; what++) {
                due("letter(" + n + ", " + what + ")", x.letter(n, what), whole[what]);
            }
            due("letter(" + n + ", -1)", x.letter(n, -1), BAD);
            due("letter(" + n + ", 7)", x.letter(n, 7), BAD);
            for (int far : FAR) {
                due("letter(" + n + ", " + far + ")", x.letter(n, far), BAD);
            }
        }
    }

    private static void aLetterThatIsNoMore() {
        CHECK.sentence("Of a LETTER: .. BAD (there is no such thing)");
        LetterFabric x = withLetters(2);
        x.keep(0);
        x.puts(5, 5, 3);
        due("put", x.letter(2, 2), 5);
        x.undo();
        due("UNDONE", x.letter(2, 2), BAD);
        x.puts(6, 6, 3);
        due("put anew", x.letter(2, 2), 6);
        x.back(0);
        due("not in the IMAGE", x.letter(2, 2), BAD);
        due("the IMAGE's last", x.letter(1, 2), 1);
        x.clear();
        due("cleared", x.letter(0, 2), BAD);
    }

    /** The slot of its end is told of a letter that is OUT or DROPPED alone. */
    private static void theSlotOfItsEnd() {
        CHECK.sentence("5 the SLOT in which it was OUT or DROPPED (NONE)");
        LetterFabric x = new LetterFabric();
        x.tells(2, 1, 8);
        for (int line = 0; line < 4; line++) {
            x.puts(line, 0, 0);
            due("at its LINE", x.letter(line, 5), NONE);
        }
        x.slot();
        int[] ends = {0, NONE, NONE, 0};
        for (int n = 0; n < 4; n++) {
            due("letter(" + n + ", 5)", x.letter(n, 5), ends[n]);
        }
        x.slot();
        due("from the QUEUE it was OUT in", x.letter(1, 5), 1);
        due("in the QUEUE", x.letter(2, 5), NONE);
        x.slot();
        due("then it was OUT in", x.letter(2, 5), 2);
        due("the first one's stays", x.letter(0, 5), 0);
        due("the DROPPED one's stays", x.letter(3, 5), 0);
        x.undo();
        due("UNDONE", x.letter(2, 5), NONE);
    }

    // ---- line

    private static void linesThatHaveNone() {
        CHECK.sentence("The LETTER at a LINE; NONE. BAD");
        for (int line = 0; line < 8; line++) {
            LetterFabric x = new LetterFabric();
            due("no LETTER at all", x.line(line), NONE);
            x.puts(line, 3, 0);
            for (int other = 0; other < 8; other++) {
                due("line " + line + " has one; line(" + other + ")", x.line(other), other == line ? 0 : NONE);
            }
            due("line(-1)", x.line(-1), BAD);
            due("line(8)", x.line(8), BAD);
            for (int far : FAR) {
                due("line(" + far + ")", x.line(far), BAD);
            }
            x.slot();
            due("OUT", x.line(line), NONE);
            x.puts(line, 3, 0);
            due("the next one", x.line(line), 1);
        }
    }

    // ---- queue

    /** Behind so many slots 0, 2, 4 .. 22 letters stand in one queue; 23 is the most that can. */
    private static void theLastOfAQueue() {
        CHECK.sentence("The k-th (0 on) LETTER of a QUEUE; NONE. BAD (k below 0)");
        for (int address = 0; address < 8; address++) {
            LetterFabric x = new LetterFabric();
            x.tells(3, 8, 24);
            for (int slot = 0; slot < 11; slot++) {
                for (int line = 0; line < 3; line++) {
                    x.puts(line, address, 0);
                }
                x.slot();
                int length = 2 * (slot + 1);
                due("the first", x.queue(address, 0), slot + 1);
                due("the last", x.queue(address, length - 1), slot + length);
                due("no other", x.queue(address, length), NONE);
            }
            x.puts(0, address, 0);
            x.puts(1, address, 0);
            x.slot();
            due("the last of 23", x.queue(address, 22), 34);
            due("no other", x.queue(address, 23), NONE);
        }
    }

    private static void theLongestQueue() {
        CHECK.sentence("The k-th (0 on) LETTER of a QUEUE; NONE. BAD (k below 0)");
        LetterFabric x = Looks.made(Stories::longestQueue);
        due("in QUEUES", x.count(7), 23);
        for (int k = 0; k < 23; k++) {
            CHECK.holds("queue(0, " + k + ")", x.queue(0, k) >= 0);
        }
        due("queue(0, 23)", x.queue(0, 23), NONE);
        due("queue(0, 24)", x.queue(0, 24), NONE);
        due("queue(0, 64)", x.queue(0, 64), NONE);
        due("queue(0, MAX)", x.queue(0, MAX), NONE);
        due("queue(1, 0)", x.queue(1, 0), NONE);
    }

    private static void queuesThatAreNone() {
        CHECK.sentence("The k-th (0 on) LETTER of a QUEUE; NONE. BAD (k below 0)");
        for (Stories.Told told : Stories.all()) {
            LetterFabric x = Looks.made(told.story());
            for (int address = 0; address < 8; address++) {
                due("queue(" + address + ", -1)", x.queue(address, -1), BAD);
                due("queue(" + address + ", MIN)", x.queue(address, MIN), BAD);
                due("queue(" + address + ", MAX)", x.queue(address, MAX), NONE);
            }
            for (int k : new int[] {MIN, -1, 0, 1, MAX}) {
                due("queue(-1, " + k + ")", x.queue(-1, k), BAD);
                due("queue(8, " + k + ")", x.queue(8, k), BAD);
                for (int far : FAR) {
                    due("queue(" + far + ", " + k + ")", x.queue(far, k), BAD);
                }
            }
        }
    }

    // ---- turned, sorted

    private static void theLastThatIsTurnedBack() {
        CHECK.sentence("The k-th (0 on) of those that are TURNED BACK, the one that is AHEAD .. first; NONE");
        for (int letters = 0; letters <= 8; letters++) {
            LetterFabric x = new LetterFabric();
            x.tells(1, 8, 0);
            for (int line = 0; line < letters; line++) {
                x.puts(line, 7 - line, line / 2);
            }
            x.slot();
            int k = 0;
            for (int priority = 3; priority >= 0; priority--) {
                for (int n = 2 * priority; n <= 2 * priority + 1 && n < letters; n++) {
                    due(letters + " LETTERS; turned(" + k + ")", x.turned(k), n);
                    k++;
                }
            }
            due(letters + " LETTERS; no other", x.turned(k), NONE);
            x.puts(0, 0, 3);
            due("one at a LINE is none of them", x.turned(letters), NONE);
            due("turned(-1)", x.turned(-1), BAD);
        }
    }

    private static void rowsHaveEnds() {
        CHECK.sentence("NONE. BAD (k below 0)");
        for (Stories.Told told : Stories.all()) {
            LetterFabric x = Looks.made(told.story());
            int turned = x.count(6);
            int sorted = x.count(5) + turned;
            String when = told.name();
            due(when + "; none behind the last TURNED BACK", x.turned(turned), NONE);
            due(when + "; none behind the last SORTED", x.sorted(sorted), NONE);
            CHECK.holds(when + "; the last TURNED BACK", turned == 0 || x.turned(turned - 1) >= 0);
            CHECK.holds(when + "; the last SORTED", sorted == 0 || x.sorted(sorted - 1) >= 0);
            for (int far : FAR) {
                due(when + "; turned(" + far + ")", x.turned(far), far < 0 ? BAD : NONE);
                due(when + "; sorted(" + far + ")", x.sorted(far), far < 0 ? BAD : NONE);
            }
            due(when + "; turned(-1)", x.turned(-1), BAD);
            due(when + "; sorted(-1)", x.sorted(-1), BAD);
        }
    }

    /** sorted() is as things are NOW: behind each puts, undo and slot it is another row. */
    private static void sortedNow() {
        CHECK.sentence("The k-th (0 on) as they would be SORTED NOW");
        LetterFabric x = new LetterFabric();
        due("none", x.sorted(0), NONE);
        x.puts(0, 7, 3);
        due("one", x.sorted(0), 0);
        due("no other", x.sorted(1), NONE);
        x.puts(1, 6, 0);
        due("a lower ADDRESS first", x.sorted(0), 1);
        due("whatever its PRIORITY", x.sorted(1), 0);
        x.undo();
        due("one again", x.sorted(0), 0);
        due("no other", x.sorted(1), NONE);
        x.slot();
        due("none", x.sorted(0), NONE);
    }

    // ---- straight

    private static int placeBehind(int stage, int line, int address) {
        int mask = new int[] {0, 4, 6, 7}[stage];
        return (address & mask) | (line & ~mask);
    }

    private static int stageOfMeeting(int line, int address, int otherLine, int otherAddress) {
        for (int stage = 1; stage <= 3; stage++) {
            if (placeBehind(stage, line, address) == placeBehind(stage, otherLine, otherAddress)) {
                return stage;
            }
        }
        return 0;
    }

    private static void twoInTheNet() {
        CHECK.sentence("in stages 1, 2, 3 the bit of its place that is worth 4, 2, 1 becomes that of its ADDRESS");
        for (int low = 0; low < 8; low++) {
            for (int high = low + 1; high < 8; high++) {
                for (int pair = 0; pair < 64; pair++) {
                    LetterFabric x = new LetterFabric();
                    x.puts(high, pair % 8, 3);
                    x.puts(low, pair / 8, 0);
                    String when = "LINES " + low + " to " + pair / 8 + ", " + high + " to " + pair % 8;
                    due(when + "; the lower one", x.straight(low), 0);
                    due(when + "; the higher one", x.straight(high), stageOfMeeting(low, pair / 8, high, pair % 8));
                }
            }
        }
    }

    /** Of three letters the third may go on where the one that would block it has been blocked before. */
    private static void threeInTheNet(int[] lines, int[] to) {
        LetterFabric x = new LetterFabric();
        for (int i = 2; i >= 0; i--) {
            x.puts(lines[i], to[i], 0);
        }
        int second = stageOfMeeting(lines[0], to[0], lines[1], to[1]);
        int byFirst = stageOfMeeting(lines[0], to[0], lines[2], to[2]);
        int bySecond = stageOfMeeting(lines[1], to[1], lines[2], to[2]);
        boolean secondStillThere = second == 0 || second >= bySecond;
        int third = bySecond == 0 || !secondStillThere ? byFirst
                : byFirst == 0 ? bySecond : Math.min(byFirst, bySecond);
        String when = "LINES " + lines[0] + " to " + to[0] + ", " + lines[1] + " to " + to[1] + ", "
                + lines[2] + " to " + to[2];
        due(when + "; the lowest", x.straight(lines[0]), 0);
        due(when + "; the next", x.straight(lines[1]), second);
        due(when + "; the highest", x.straight(lines[2]), third);
    }

    private static void allThreesInTheNet() {
        CHECK.sentence("Where several are at one place .., that of the lowest LINE goes on, the others are BLOCKED");
        for (int set = 0; set < 512; set++) {
            int[] lines = {set / 64, set / 8 % 8, set % 8};
            if (lines[0] >= lines[1] || lines[1] >= lines[2]) {
                continue;
            }
            for (int three = 0; three < 512; three++) {
                threeInTheNet(lines, new int[] {three / 64, three / 8 % 8, three % 8});
            }
        }
    }

    private static void fullNet() {
        CHECK.sentence("Where several are at one place .., that of the lowest LINE goes on, the others are BLOCKED");
        for (int address = 0; address < 8; address++) {
            LetterFabric x = new LetterFabric();
            for (int line = 7; line >= 0; line--) {
                x.puts(line, address, line % 4);
            }
            int[] stages = {0, 3, 2, 2, 1, 1, 1, 1};
            for (int line = 0; line < 8; line++) {
                due("all to " + address + "; straight(" + line + ")", x.straight(line), stages[line]);
            }
        }
    }

    private static void linesThatHaveNoneToSend() {
        CHECK.sentence("BAD; STATE: the LINE has none");
        LetterFabric x = new LetterFabric();
        for (int line = 0; line < 8; line++) {
            due("straight(" + line + ") of none", x.straight(line), STATE);
        }
        x.puts(3, 0, 0);
        for (int line = 0; line < 8; line++) {
            due("straight(" + line + ") of one", x.straight(line), line == 3 ? 0 : STATE);
        }
        x.slot();
        due("OUT", x.straight(3), STATE);
        x.undo();
        due("at its LINE again", x.straight(3), 0);
        due("straight(-1)", x.straight(-1), BAD);
        due("straight(8)", x.straight(8), BAD);
        for (int far : FAR) {
            due("straight(" + far + ")", x.straight(far), BAD);
        }
    }

    // ---- count

    /** The objects that these tests are made on are as Stories says: count() from 0 to 11. */
    private static void storiesAreAsTold() {
        CHECK.sentence("0 NETS, 1 BACK, 2 ROOM, 3 NOW, 4 LETTERS, 5 of these at LINES, .. 11 how many may be UNDONE");
        int[][] counts = {
            {1, 8, 8, 0, 0, 0, 0, 0, 0, 0, 0, 0},
            {1, 8, 8, 0, 1, 1, 0, 0, 0, 0, 0, 1},
            {2, 1, 9, 1, 5, 1, 1, 1, 1, 1, 2, 7},
            {2, 3, 4, 1, 8, 8, 0, 0, 0, 0, 6, 10},
            {1, 8, 0, 1, 16, 8, 8, 0, 0, 0, 0, 10},
            {3, 8, 24, 13, 49, 0, 8, 23, 13, 5, 0, 10},
            {1, 8, 8, 8, 64, 0, 0, 0, 64, 0, 0, 10},
            {1, 8, 8, 7, 64, 8, 0, 0, 56, 0, 0, 9},
            {1, 8, 0, 99, 2, 1, 1, 0, 0, 0, 0, 10},
            {1, 8, 0, 98, 1, 0, 1, 0, 0, 0, 0, 8},
            {2, 1, 9, 0, 4, 4, 0, 0, 0, 0, 2, 0},
            {1, 8, 8, 0, 0, 0, 0, 0, 0, 0, 0, 0},
        };
        for (int i = 0; i < counts.length; i++) {
            Stories.Told told = Stories.all().get(i);
            LetterFabric x = Looks.made(told.story());
            for (int what = 0; what < 12; what++) {
                due(told.name() + "; count(" + what + ")", x.count(what), counts[i][what]);
            }
        }
        due("no other story", Stories.all().size(), counts.length);
        due("eight at lines; unseen()", Looks.made(Stories::fullLines).unseen(), 128 + 64);
        due("letters at all places; unseen()", Looks.made(Stories::allPlaces).unseen(), 128);
    }

    private static void whatIsCounted() {
        CHECK.sentence("0 NETS .. 11 how many may be UNDONE. BAD");
        for (Stories.Told told : Stories.all()) {
            LetterFabric x = Looks.made(told.story());
            for (int what = 0; what <= 11; what++) {
                CHECK.holds(told.name() + "; count(" + what + ")", x.count(what) >= 0);
            }
            due(told.name() + "; count(-1)", x.count(-1), BAD);
            due(told.name() + "; count(12)", x.count(12), BAD);
            for (int far : FAR) {
                due(told.name() + "; count(" + far + ")", x.count(far), BAD);
            }
            int[] places = new int[5];
            for (int n = 0; n < x.count(4); n++) {
                places[x.letter(n, 0)]++;
            }
            for (int place = 0; place < 5; place++) {
                due(told.name() + "; count(" + (5 + place) + ")", x.count(5 + place), places[place]);
            }
        }
    }

    public static void main(String[] args) {
        theLastLetterAndTheNext();
        whatOfALetter();
        aLetterThatIsNoMore();
        theSlotOfItsEnd();
        linesThatHaveNone();
        theLastOfAQueue();
        theLongestQueue();
        queuesThatAreNone();
        theLastThatIsTurnedBack();
        rowsHaveEnds();
        sortedNow();
        twoInTheNet();
        allThreesInTheNet();
        fullNet();
        linesThatHaveNoneToSend();
        storiesAreAsTold();
        whatIsCounted();
        CHECK.end();
    }
}
