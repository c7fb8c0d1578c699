/** The edges that stand under 'Terms': what may be told and put, how many letters and slots, who is ahead. */
public final class TermsEdgesTest {
    private static final int BAD = LetterFabric.BAD, STATE = LetterFabric.STATE;
    private static final int FULL = LetterFabric.FULL, NONE = LetterFabric.NONE;
    private static final int[] FAR = {Integer.MIN_VALUE, Integer.MIN_VALUE + 1, -256, 256, Integer.MAX_VALUE};
    private static final Check CHECK = new Check();

    private static void due(String call, long got, long want) {
        CHECK.due(call, got, want);
    }

    private static boolean within(int number, int least, int most) {
        return number >= least && number <= most;
    }

    // ---- NETS, BACK, ROOM

    private static void tellsOnANewOne(int nets, int back, int room) {
        LetterFabric x = new LetterFabric();
        boolean good = within(nets, 1, 3) && within(back, 0, 8) && within(room, 0, 24);
        boolean so = nets == 1 && back == 8 && room == 8;
        boolean taken = good && !so;
        String call = "tells(" + nets + ", " + back + ", " + room + ")";
        due(call, x.tells(nets, back, room), taken ? 1 : so ? STATE : BAD);
        due(call + "; NETS", x.count(0), taken ? nets : 1);
        due(call + "; BACK", x.count(1), taken ? back : 8);
        due(call + "; ROOM", x.count(2), taken ? room : 8);
        due(call + "; may be UNDONE", x.count(11), taken ? 1 : 0);
    }

    private static void netsBackAndRoom() {
        CHECK.sentence("NETS (1 .. 3; 1 at first), BACK (0 .. 8; 8 at first), ROOM (0 .. 24; 8 at first)");
        for (int nets = -2; nets <= 5; nets++) {
            for (int back = -2; back <= 10; back++) {
                for (int room = -2; room <= 26; room++) {
                    tellsOnANewOne(nets, back, room);
                }
            }
        }
        for (int far : FAR) {
            tellsOnANewOne(far, 4, 4);
            tellsOnANewOne(2, far, 4);
            tellsOnANewOne(2, 4, far);
            tellsOnANewOne(far, far, far);
        }
    }

    private static void tellsWhatIsSo() {
        CHECK.sentence("STATE: they are so");
        for (int nets = 1; nets <= 3; nets++) {
            for (int back = 3; back <= 5; back++) {
                for (int room = 11; room <= 13; room++) {
                    LetterFabric x = new LetterFabric();
                    x.tells(2, 4, 12);
                    boolean so = nets == 2 && back == 4 && room == 12;
                    due("2, 4, 12 told, then " + nets + ", " + back + ", " + room,
                            x.tells(nets, back, room), so ? STATE : 1);
                    due("may be UNDONE", x.count(11), so ? 1 : 2);
                }
            }
        }
        LetterFabric x = new LetterFabric();
        x.tells(2, 8, 8);
        due("what was so at first", x.tells(1, 8, 8), 1);
        x.undo();
        due("what is so again, a tells being undone", x.tells(2, 8, 8), STATE);
        x.clear();
        due("what is so again behind clear", x.tells(1, 8, 8), STATE);
    }

    // ---- LINES, ADDRESSES, PRIORITY

    private static void putsOnANewOne(int line, int address, int priority) {
        LetterFabric x = new LetterFabric();
        boolean good = within(line, 0, 7) && within(address, 0, 7) && within(priority, 0, 3);
        String call = "puts(" + line + ", " + address + ", " + priority + ")";
        due(call, x.puts(line, address, priority), good ? 0 : BAD);
        due(call + "; LETTERS", x.count(4), good ? 1 : 0);
        due(call + "; at LINES", x.count(5), good ? 1 : 0);
        due(call + "; may be UNDONE", x.count(11), good ? 1 : 0);
        int[] whole = {0, line, address, priority, 0, NONE, 0};
        for (int what = 0; what < whole.length; what++) {
            due(call + "; letter(0, " + what + ")", x.letter(0, what), good ? whole[what] : BAD);
        }
        for (int i = 0; i < 8; i++) {
            due(call + "; line(" + i + ")", x.line(i), good && i == line ? 0 : NONE);
        }
    }

    private static void linesAddressesAndPriority() {
        CHECK.sentence("LINES 0 to 7, ADDRESSES 0 to 7, a PRIORITY (0 .. 3)");
        for (int line = -2; line <= 9; line++) {
            for (int address = -2; address <= 9; address++) {
                for (int priority = -2; priority <= 5; priority++) {
                    putsOnANewOne(line, address, priority);
                }
            }
        }
        for (int far : FAR) {
            putsOnANewOne(far, 4, 2);
            putsOnANewOne(4, far, 2);
            putsOnANewOne(4, 4, far);
            putsOnANewOne(far, far, far);
        }
    }

    private static void eachAddressHasItsQueue() {
        CHECK.sentence("ADDRESSES 0 to 7, each with a QUEUE");
        LetterFabric x = new LetterFabric();
        x.tells(2, 8, 24);
        for (int half = 0; half < 2; half++) {
            for (int line = 0; line < 8; line++) {
                x.puts(line, half * 4 + line / 2, 0);
            }
            due("one of each two is OUT", x.slot(), half == 0 ? 4 : 8);
            due("the other is in its QUEUE", x.count(7), 4);
            for (int address = 0; address < 8; address++) {
                boolean here = address / 4 == half;
                due("queue(" + address + ", 0)", x.queue(address, 0), here ? 2 * address + 1 : NONE);
                due("queue(" + address + ", 1)", x.queue(address, 1), NONE);
            }
        }
    }

    private static void aLineThatHasOne() {
        CHECK.sentence("STATE: the LINE has one");
        for (int line = 0; line < 8; line++) {
            LetterFabric x = new LetterFabric();
            x.puts(line, 5, 2);
            for (int other = 0; other < 8; other++) {
                int due = other == line ? STATE : other < line ? other + 1 : other;
                due("line " + line + " has one; puts on " + other, x.puts(other, 5, 2), due);
            }
            for (int again = 0; again < 8; again++) {
                due("all have one; puts on " + again, x.puts(again, 0, 3), STATE);
            }
            due("LETTERS", x.count(4), 8);
        }
    }

    /** In a slot each letter leaves its line, wherever it comes to. */
    private static void aLineIsFreeBehindASlot() {
        CHECK.sentence("STATE: the LINE has one");
        LetterFabric x = new LetterFabric();
        x.tells(2, 1, 8);
        for (int line = 0; line < 4; line++) {
            x.puts(line, 0, 0);
        }
        x.slot();
        int[] where = {3, 2, 1, 4};
        for (int line = 0; line < 4; line++) {
            due("letter(" + line + ", 0)", x.letter(line, 0), where[line]);
            due("line " + line + " is free", x.line(line), NONE);
            due("puts on it", x.puts(line, 1, 0), 4 + line);
            due("and it has one", x.puts(line, 1, 0), STATE);
        }
    }

    // ---- how many LETTERS

    /** All of them come OUT, eight in a slot, but for those of the last slot: these are at their lines. */
    private static LetterFabric withLetters(int letters) {
        LetterFabric x = new LetterFabric();
        for (int n = 0; n < letters; n++) {
            if (n > 0 && n % 8 == 0) {
                x.slot();
            }
            due("puts of LETTER " + n, x.puts(n % 8, n % 8, n % 4), n);
        }
        return x;
    }

    private static void sixtyFourLetters() {
        CHECK.sentence("LETTERS 0, 1, .. (64 at most); FULL: 64");
        LetterFabric x = withLetters(63);
        due("the last one", x.puts(7, 0, 0), 63);
        due("LETTERS", x.count(4), 64);
        x.slot();
        for (int line = 0; line < 8; line++) {
            due("one more on free line " + line, x.puts(line, line, 3), FULL);
        }
        due("LETTERS", x.count(4), 64);
        due("at LINES", x.count(5), 0);
        due("no LETTER 64", x.letter(64, 0), BAD);
        due("may be UNDONE", x.count(11), 10);
        due("the slot UNDONE", x.undo(), 9);
        due("the last puts UNDONE", x.undo(), 8);
        due("LETTERS", x.count(4), 63);
        due("no LETTER 63", x.letter(63, 0), BAD);
        due("there is room for one", x.puts(7, 1, 1), 63);
        x.slot();
        due("and for no other", x.puts(7, 1, 1), FULL);
        due("clear", x.clear(), 64);
        due("numbers begin anew", x.puts(7, 1, 1), 0);
    }

    /** Those that are DROPPED or TURNED BACK are LETTERS still. */
    private static void sixtyFourThatAreNotOut() {
        CHECK.sentence("LETTERS 0, 1, .. (64 at most); FULL: 64");
        LetterFabric x = new LetterFabric();
        x.tells(3, 8, 0);
        for (int n = 0; n < 64; n++) {
            due("puts of LETTER " + n, x.puts(n % 8, 0, 0), n);
            if (n % 8 == 7) {
                x.slot();
            }
        }
        due("TURNED BACK", x.count(6), 8);
        due("DROPPED", x.count(9), 56);
        due("one more", x.puts(0, 0, 0), FULL);
        due("the last slot UNDONE", x.undo(), 9);
        due("NOW", x.count(3), 7);
        due("at LINES", x.count(5), 8);
    }

    private static void fullIsAsTheImageHasIt() {
        CHECK.sentence("LETTERS 0, 1, .. (64 at most); FULL: 64");
        LetterFabric x = withLetters(63);
        x.keep(0);
        x.puts(7, 7, 0);
        x.slot();
        due("keep", x.keep(1), 64);
        due("FULL", x.puts(0, 0, 0), FULL);
        due("back(0)", x.back(0), 63);
        due("one more", x.puts(7, 7, 0), 63);
        due("back(1)", x.back(1), 64);
        due("FULL again", x.puts(0, 0, 0), FULL);
    }

    // ---- SLOTS

    private static void ninetyNineSlots() {
        CHECK.sentence("NOW is the next one (0 at first); STATE: NOW is 99");
        LetterFabric x = new LetterFabric();
        for (int now = 0; now < 99; now++) {
            due("NOW", x.count(3), now);
            due("slot()", x.slot(), 0);
        }
        due("NOW", x.count(3), 99);
        due("slot()", x.slot(), STATE);
        due("again", x.slot(), STATE);
        due("NOW", x.count(3), 99);
        due("may be UNDONE", x.count(11), 10);
        due("UNDONE", x.undo(), 9);
        due("NOW", x.count(3), 98);
        due("the last slot once more", x.slot(), 0);
        due("and no other", x.slot(), STATE);
        x.clear();
        due("NOW behind clear", x.count(3), 0);
        due("slot()", x.slot(), 0);
    }

    private static void lettersOfTheLastSlot() {
        CHECK.sentence("NOW is the next one (0 at first); STATE: NOW is 99");
        LetterFabric x = new LetterFabric();
        x.puts(0, 0, 0);
        due("OUT in the first slot", x.slot(), 1);
        due("its SLOT", x.letter(0, 5), 0);
        for (int now = 1; now < 98; now++) {
            x.slot();
        }
        x.tells(1, 0, 8);
        x.puts(0, 0, 1);
        x.puts(1, 0, 0);
        x.keep(0);
        due("OUT in the last slot", x.slot(), 1);
        due("put when NOW was", x.letter(1, 4), 98);
        due("OUT in", x.letter(1, 5), 98);
        due("DROPPED in", x.letter(2, 5), 98);
        due("a LETTER is put behind it", x.puts(6, 6, 0), 3);
        due("when NOW was", x.letter(3, 4), 99);
        due("no slot for it", x.slot(), STATE);
        due("it is at its LINE", x.letter(3, 0), 0);
        due("back to NOW 98", x.back(0), 3);
        due("the last slot once more", x.slot(), 1);
        due("and no other", x.slot(), STATE);
    }

    // ---- where a LETTER is, ROUNDS, AHEAD

    private static void aLetterIsAtOnePlace() {
        CHECK.sentence("A LETTER is at its LINE, TURNED BACK, in the QUEUE of its ADDRESS, OUT, or DROPPED");
        LetterFabric x = new LetterFabric();
        x.tells(2, 3, 4);
        for (int slot = 0; slot < 8; slot++) {
            for (int line = 0; line < 8 && slot < 6; line++) {
                x.puts(line, line % 3, (line + slot) % 4);
            }
            int all = x.count(5) + x.count(6) + x.count(7) + x.count(8) + x.count(9);
            due("all places together", all, x.count(4));
            x.slot();
            due("at LINES behind a slot", x.count(5), 0);
            CHECK.holds("no more than BACK are TURNED BACK", x.count(6) <= 3);
            CHECK.holds("no more than ROOM are in QUEUES", x.count(7) <= 4);
        }
    }

    private static void roundsOfALetter() {
        CHECK.sentence("ROUNDS of it: how often it was TURNED BACK");
        LetterFabric x = new LetterFabric();
        x.tells(1, 1, 0);
        x.puts(0, 0, 0);
        due("none at its LINE", x.letter(0, 6), 0);
        for (int rounds = 1; rounds <= 98; rounds++) {
            x.slot();
            due("TURNED BACK", x.letter(0, 6), rounds);
        }
        x.puts(1, 0, 3);
        due("one of two is DROPPED", x.slot(), 0);
        due("the new one is TURNED BACK", x.letter(1, 6), 1);
        due("that which is DROPPED is not", x.letter(0, 0), 4);
        due("its ROUNDS stay", x.letter(0, 6), 98);
        x.undo();
        x.tells(1, 1, 1);
        due("OUT at last", x.slot(), 1);
        due("the one that was put now", x.letter(1, 6), 0);
        due("the other is TURNED BACK again", x.letter(0, 6), 99);
        x.undo();
        due("not so, being UNDONE", x.letter(0, 6), 98);
    }

    /** Letters 0 and 1, put on lines 7 and 0, want the same place: the one that is AHEAD is OUT. */
    private static void whoIsAhead() {
        CHECK.sentence("AHEAD of another one, if its PRIORITY is higher; of like ones, if its number is lower");
        for (int one = 0; one <= 3; one++) {
            for (int other = 0; other <= 3; other++) {
                LetterFabric x = new LetterFabric();
                x.puts(7, 3, one);
                x.puts(0, 3, other);
                int first = other > one ? 1 : 0;
                String pair = "PRIORITY " + one + " and " + other;
                due(pair + "; sorted(0)", x.sorted(0), first);
                due(pair + "; sorted(1)", x.sorted(1), 1 - first);
                x.slot();
                due(pair + "; OUT", x.letter(first, 0), 3);
                due(pair + "; TURNED BACK", x.turned(0), 1 - first);
            }
        }
    }

    /** Neither the line nor how long a letter has waited counts. */
    private static void aheadOfThoseTurnedBack() {
        CHECK.sentence("AHEAD of another one, if its PRIORITY is higher; of like ones, if its number is lower");
        for (int old = 0; old <= 3; old++) {
            for (int young = 0; young <= 3; young++) {
                LetterFabric x = new LetterFabric();
                x.tells(1, 8, 0);
                x.puts(7, 3, old);
                x.slot();
                x.puts(0, 3, young);
                x.tells(1, 8, 1);
                int first = young > old ? 1 : 0;
                due("sorted(0)", x.sorted(0), first);
                due("one is OUT", x.slot(), 1);
                due("that which is AHEAD", x.letter(first, 0), 3);
                due("the other is TURNED BACK", x.letter(1 - first, 0), 1);
            }
        }
    }

    private static void upToTheLastCall() {
        CHECK.sentence("An object is used for at most 512 calls");
        LetterFabric x = new LetterFabric();
        for (int i = 0; i < 170; i++) {
            due("puts", x.puts(i % 8, i % 7, i % 4), 0);
            due("slot", x.slot(), 1);
            due("clear", x.clear(), 1);
        }
        due("the call before the last", x.puts(7, 7, 3), 0);
        due("the last call", x.slot(), 1);
    }

    public static void main(String[] args) {
        netsBackAndRoom();
        tellsWhatIsSo();
        linesAddressesAndPriority();
        eachAddressHasItsQueue();
        aLineThatHasOne();
        aLineIsFreeBehindASlot();
        sixtyFourLetters();
        sixtyFourThatAreNotOut();
        fullIsAsTheImageHasIt();
        ninetyNineSlots();
        lettersOfTheLastSlot();
        aLetterIsAtOnePlace();
        roundsOfALetter();
        whoIsAhead();
        aheadOfThoseTurnedBack();
        upToTheLastCall();
        CHECK.end();
    }
}
