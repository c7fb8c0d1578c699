import java.util.ArrayDeque;
import java.util.ArrayList;
import java.util.Comparator;
import java.util.Deque;
import java.util.List;

/** The edges of '2 A SLOT', step by step, and of what is known to be UNDONE. */
public final class SlotEdgesTest {
    private static final int STATE = LetterFabric.STATE, NONE = LetterFabric.NONE;
    private static final int AT_LINE = 0, TURNED_BACK = 1, IN_QUEUE = 2, OUT = 3, DROPPED = 4;
    private static final Check CHECK = new Check();

    private static void due(String call, long got, long want) {
        CHECK.due(call, got, want);
    }

    /** New objects have 1, 8, 8 already, which tells() would refuse. */
    private static LetterFabric with(int nets, int back, int room) {
        LetterFabric x = new LetterFabric();
        if (nets != 1 || back != 8 || room != 8) {
            due("tells", x.tells(nets, back, room), 1);
        }
        return x;
    }

    private static void putOnLines(LetterFabric x, int letters, int address, int priority) {
        for (int line = 0; line < letters; line++) {
            x.puts(line, address, priority);
        }
    }

    // ---- step 1

    private static void anEmptySlot() {
        CHECK.sentence("SORTED: all LETTERS that are at LINES or TURNED BACK");
        LetterFabric x = new LetterFabric();
        due("none", x.sorted(0), NONE);
        due("none is OUT", x.slot(), 0);
        due("NOW", x.count(3), 1);
        for (int what = 4; what <= 10; what++) {
            due("count(" + what + ")", x.count(what), 0);
        }
        due("it can be UNDONE", x.undo(), 0);
        due("NOW", x.count(3), 0);
    }

    /** Eight are TURNED BACK and eight at LINES: no more can be sorted. Two go to each address. */
    private static LetterFabric sixteenWaiting(int[] oldPriorities, int[] newPriorities) {
        LetterFabric x = with(1, 8, 0);
        for (int line = 0; line < 8; line++) {
            x.puts(line, 7 - line, oldPriorities[line]);
        }
        x.slot();
        for (int line = 0; line < 8; line++) {
            x.puts(line, line, newPriorities[line]);
        }
        return x;
    }

    private static void sixteenSorted() {
        CHECK.sentence("SORTED: all .. by ADDRESSES, of one ADDRESS those that are AHEAD first");
        LetterFabric x = sixteenWaiting(new int[] {0, 1, 2, 3, 0, 1, 2, 3}, new int[] {3, 3, 1, 0, 3, 1, 2, 0});
        int[] order = {7, 8, 9, 6, 5, 10, 4, 11, 3, 12, 2, 13, 14, 1, 0, 15};
        for (int k = 0; k < 16; k++) {
            due("sorted(" + k + ")", x.sorted(k), order[k]);
        }
        due("sorted(16)", x.sorted(16), NONE);
    }

    /** Letters 0 OUT, 1 in the QUEUE, 2 TURNED BACK, 3 DROPPED, 4 at its LINE: two of these are sorted. */
    private static void onlyTwoKindsAreSorted() {
        CHECK.sentence("SORTED: all LETTERS that are at LINES or TURNED BACK");
        LetterFabric x = with(2, 1, 8);
        putOnLines(x, 4, 3, 0);
        x.slot();
        x.puts(0, 2, 0);
        int[] places = {OUT, IN_QUEUE, TURNED_BACK, DROPPED, AT_LINE};
        for (int n = 0; n < places.length; n++) {
            due("letter(" + n + ", 0)", x.letter(n, 0), places[n]);
        }
        due("the one at its LINE", x.sorted(0), 4);
        due("the one TURNED BACK", x.sorted(1), 2);
        due("no other", x.sorted(2), NONE);
    }

    // ---- step 2

    private static void theFirstNetsWin() {
        CHECK.sentence("Of each ADDRESS the first NETS of these WIN");
        for (int nets = 1; nets <= 3; nets++) {
            for (int letters = 1; letters <= 8; letters++) {
                LetterFabric x = with(nets, 8, 24);
                putOnLines(x, letters, 5, 0);
                int winners = Math.min(nets, letters);
                String when = "NETS " + nets + ", LETTERS " + letters;
                due(when + "; one is OUT", x.slot(), 1);
                due(when + "; in the QUEUE", x.count(7), winners - 1);
                due(when + "; TURNED BACK", x.count(6), letters - winners);
                for (int n = 0; n < letters; n++) {
                    due(when + "; letter " + n, x.letter(n, 0), n == 0 ? OUT : n < winners ? IN_QUEUE : TURNED_BACK);
                }
            }
        }
    }

    private static void eachAddressForItself() {
        CHECK.sentence("Of each ADDRESS the first NETS of these WIN");
        for (int nets = 1; nets <= 3; nets++) {
            LetterFabric x = with(nets, 8, 24);
            for (int line = 0; line < 8; line++) {
                x.puts(line, line < 4 ? 0 : 7, 0);
            }
            due("one of each ADDRESS is OUT", x.slot(), 2);
            due("in QUEUES", x.count(7), 2 * nets - 2);
            due("TURNED BACK", x.count(6), 8 - 2 * nets);
            due("the last one of ADDRESS 0", x.letter(3, 0), TURNED_BACK);
            due("the last one of ADDRESS 7", x.letter(7, 0), TURNED_BACK);
        }
    }

    private static void behindWhatIsInTheQueue() {
        CHECK.sentence("WINNERS come to their QUEUES (behind what is in them), in the order in which they are SORTED");
        LetterFabric x = with(3, 8, 24);
        putOnLines(x, 3, 4, 0);
        x.slot();
        x.puts(0, 4, 1);
        x.puts(1, 4, 3);
        x.puts(2, 4, 2);
        due("the first of the QUEUE is OUT", x.slot(), 1);
        int[] queue = {2, 4, 5, 3, NONE};
        for (int k = 0; k < queue.length; k++) {
            due("queue(4, " + k + ")", x.queue(4, k), queue[k]);
        }
    }

    /** So many are in QUEUES before, by two a slot; then one comes to each address. */
    private static void roomWith(int before, int room) {
        LetterFabric x = with(3, 8, 24);
        for (int slot = 0; slot < before / 2; slot++) {
            putOnLines(x, 3, 7, 3);
            x.slot();
        }
        due("in QUEUES before", x.count(7), before);
        int first = x.count(4);
        if (room != 24) {
            x.tells(3, 8, room);
        }
        for (int line = 0; line < 8; line++) {
            x.puts(line, line, 0);
        }
        int come = Math.max(0, Math.min(8, room - before));
        boolean queueOf7 = before > 0 || come == 8;
        int out = Math.min(come, 7) + (queueOf7 ? 1 : 0);
        String when = "ROOM " + room + ", in QUEUES " + before;
        due(when + "; OUT", x.slot(), out);
        due(when + "; in QUEUES", x.count(7), before + come - out);
        due(when + "; TURNED BACK", x.count(6), 8 - come);
        for (int line = 0; line < 8; line++) {
            int in = line < 7 || before == 0 ? OUT : IN_QUEUE;
            due(when + "; to ADDRESS " + line, x.letter(first + line, 0), line < come ? in : TURNED_BACK);
        }
    }

    private static void roomThatAllShare() {
        CHECK.sentence("one that finds ROOM LETTERS or more in all QUEUES together does not");
        for (int before = 0; before <= 22; before += 2) {
            for (int room = 0; room <= 24; room++) {
                roomWith(before, room);
            }
        }
    }

    private static void itWinsNoMore() {
        CHECK.sentence("one that finds ROOM LETTERS or more .. does not (it WINS no more)");
        LetterFabric x = with(2, 8, 2);
        x.puts(0, 0, 0);
        x.puts(1, 0, 0);
        x.puts(2, 0, 3);
        x.puts(3, 1, 3);
        due("OUT", x.slot(), 1);
        due("the first of ADDRESS 0", x.letter(2, 0), OUT);
        due("the second", x.queue(0, 0), 0);
        due("no WINNER of ADDRESS 0", x.letter(1, 6), 1);
        due("a WINNER without ROOM is TURNED BACK like it", x.letter(3, 6), 1);
        due("and AHEAD of it", x.turned(0), 3);
        x.tells(1, 0, 0);
        x.puts(0, 5, 3);
        due("the QUEUE goes on without ROOM", x.slot(), 1);
        due("the WINNER is DROPPED like others", x.letter(4, 0), DROPPED);
        due("all that waited are DROPPED", x.count(9), 3);
    }

    /** The place that is free behind step 4 is nobody's in this slot. */
    private static void roomIsLookedAtBeforeAnyIsOut() {
        CHECK.sentence("2 .. one that finds ROOM LETTERS or more; 4 the first one is OUT");
        LetterFabric x = with(1, 8, 1);
        for (int line = 0; line < 8; line++) {
            x.puts(line, line, 0);
        }
        for (int address = 0; address < 8; address++) {
            due("one place, one OUT", x.slot(), 1);
            due("that of ADDRESS " + address, x.letter(address, 5), address);
            due("TURNED BACK so often", x.letter(address, 6), address);
        }
        due("all are OUT", x.count(8), 8);
    }

    // ---- step 3

    private static List<Integer> byAhead(int letters, int[] priorities) {
        List<Integer> order = new ArrayList<>();
        for (int n = 0; n < letters; n++) {
            order.add(n);
        }
        order.sort(Comparator.<Integer>comparingInt(n -> -priorities[n]).thenComparingInt(n -> n));
        return order;
    }

    private static void asManyAsBack(LetterFabric x, String when, int back, List<Integer> order, int[] rounds) {
        int letters = order.size();
        due(when + "; OUT", x.slot(), 0);
        due(when + "; TURNED BACK", x.count(6), Math.min(back, letters));
        due(when + "; DROPPED", x.count(9), Math.max(0, letters - back));
        for (int k = 0; k < letters; k++) {
            int n = order.get(k);
            boolean turned = k < back;
            due(when + "; turned(" + k + ")", x.turned(k), turned ? n : NONE);
            due(when + "; letter " + n, x.letter(n, 0), turned ? TURNED_BACK : DROPPED);
            due(when + "; its ROUNDS", x.letter(n, 6), turned ? rounds[n] + 1 : rounds[n]);
            due(when + "; its SLOT", x.letter(n, 5), turned ? NONE : x.count(3) - 1);
        }
    }

    private static void theBackOnesThatAreAhead() {
        CHECK.sentence("the BACK ones of these that are AHEAD of all others; the rest is DROPPED");
        int[] priorities = {1, 0, 3, 1, 2, 0, 3, 2};
        for (int back = 0; back <= 8; back++) {
            for (int letters = 0; letters <= 8; letters++) {
                LetterFabric x = with(1, back, 0);
                for (int line = 0; line < letters; line++) {
                    x.puts(line, 7 - line, priorities[line]);
                }
                String when = "BACK " + back + ", LETTERS " + letters;
                asManyAsBack(x, when, back, byAhead(letters, priorities), new int[8]);
            }
        }
    }

    private static void theBackOnesOfSixteen() {
        CHECK.sentence("the BACK ones of these that are AHEAD of all others; the rest is DROPPED");
        int[] priorities = {1, 0, 3, 1, 2, 0, 3, 2, 3, 3, 0, 1, 2, 2, 0, 1};
        int[] old = java.util.Arrays.copyOf(priorities, 8);
        int[] young = java.util.Arrays.copyOfRange(priorities, 8, 16);
        int[] rounds = {1, 1, 1, 1, 1, 1, 1, 1, 0, 0, 0, 0, 0, 0, 0, 0};
        for (int back = 0; back <= 8; back++) {
            LetterFabric x = sixteenWaiting(old, young);
            if (back != 8) {
                x.tells(1, back, 0);
            }
            due("they stay till the slot", x.count(6), 8);
            asManyAsBack(x, "BACK " + back + " of 16", back, byAhead(16, priorities), rounds);
        }
    }

    /** tells() itself turns nothing out, though there be more than may come. */
    private static void moreThanToldStays() {
        CHECK.sentence("what is TURNED BACK, in QUEUES stays, though it be more than these");
        LetterFabric x = with(3, 8, 24);
        putOnLines(x, 8, 0, 0);
        x.slot();
        for (int less = 4; less >= 0; less--) {
            due("tells(1, " + less + ", 0)", x.tells(1, less, 0), 1);
            due("TURNED BACK", x.count(6), 5);
            due("in QUEUES", x.count(7), 2);
            due("DROPPED", x.count(9), 0);
            due("the last one TURNED BACK", x.turned(4), 7);
            due("the last one of the QUEUE", x.queue(0, 1), 2);
        }
        due("the QUEUE goes on", x.slot(), 1);
        due("till it is empty", x.slot(), 1);
        due("then none is OUT", x.slot(), 0);
        due("DROPPED", x.count(9), 5);
    }

    // ---- step 4

    private static void ofEachQueueTheFirst() {
        CHECK.sentence("Of each QUEUE that has a LETTER the first one is OUT. NOW is t and 1");
        for (int queues = 0; queues <= 8; queues++) {
            LetterFabric x = with(1, 8, 24);
            for (int line = 0; line < queues; line++) {
                x.puts(line, 7 - line, line % 4);
            }
            due("so many QUEUES have one", x.slot(), queues);
            due("OUT", x.count(8), queues);
            due("NOW", x.count(3), 1);
            due("in QUEUES", x.count(7), 0);
            due("and none has", x.slot(), 0);
            due("NOW", x.count(3), 2);
        }
    }

    private static void onlyTheFirst() {
        CHECK.sentence("Of each QUEUE that has a LETTER the first one is OUT");
        LetterFabric x = with(3, 8, 24);
        for (int line = 0; line < 8; line++) {
            x.puts(line, line < 3 ? 0 : line < 5 ? 3 : 7, 0);
        }
        due("of three QUEUES", x.slot(), 3);
        due("again", x.slot(), 3);
        due("that of ADDRESS 3 is empty", x.slot(), 2);
        due("all are", x.slot(), 0);
        int[] slots = {0, 1, 2, 0, 1, 0, 1, 2};
        for (int n = 0; n < 8; n++) {
            due("letter(" + n + ", 5)", x.letter(n, 5), slots[n]);
        }
    }

    // ---- UNDONE

    private static void tenAreKnown() {
        CHECK.sentence("UNDONE: the latest .. (10 are known, older ones are lost); STATE: none");
        for (int slots = 0; slots <= 32; slots++) {
            LetterFabric x = new LetterFabric();
            for (int i = 0; i < slots; i++) {
                x.slot();
            }
            int known = Math.min(slots, 10);
            due(slots + " slots; may be UNDONE", x.count(11), known);
            for (int left = known - 1; left >= 0; left--) {
                due(slots + " slots; undo()", x.undo(), left);
                due(slots + " slots; NOW", x.count(3), slots - known + left);
                due(slots + " slots; may be UNDONE", x.count(11), left);
            }
            due(slots + " slots; no more", x.undo(), STATE);
            due(slots + " slots; NOW", x.count(3), slots - known);
        }
    }

    private static void tenPuts() {
        CHECK.sentence("UNDONE: the latest puts() ..");
        LetterFabric x = new LetterFabric();
        putOnLines(x, 8, 1, 1);
        x.slot();
        putOnLines(x, 4, 2, 2);
        for (int left = 9; left >= 0; left--) {
            due("undo()", x.undo(), left);
        }
        due("the first three puts stay", x.count(4), 3);
        due("their LINES", x.line(2), 2);
        due("the fourth is UNDONE", x.line(3), NONE);
        due("no more", x.undo(), STATE);
    }

    private static void tenTells() {
        CHECK.sentence("UNDONE: the latest .. tells() that was not refused");
        LetterFabric x = new LetterFabric();
        for (int room = 9; room <= 24; room++) {
            x.tells(2, room % 9, room);
            due("refused", x.tells(2, room % 9, room), STATE);
        }
        for (int room = 23; room >= 14; room--) {
            due("undo()", x.undo(), room - 14);
            due("BACK", x.count(1), room % 9);
            due("ROOM", x.count(2), room);
        }
        due("no more", x.undo(), STATE);
        due("NETS", x.count(0), 2);
    }

    /** What is known goes round many times, forth and back by steps of all lengths. */
    private static void forthAndBack() {
        CHECK.sentence("UNDONE: how many more may be");
        LetterFabric x = new LetterFabric();
        Deque<Integer> rooms = new ArrayDeque<>();
        int room = 8;
        for (int step = 0; step < 39; step++) {
            for (int i = 0; i <= step % 13 && i < 12; i++) {
                rooms.addLast(room);
                room = (room + 1 + step % 3) % 25;
                due("tells", x.tells(1, 8, room), 1);
                while (rooms.size() > 10) {
                    rooms.removeFirst();
                }
            }
            for (int i = 0; i <= step * 5 % 11 && !rooms.isEmpty(); i++) {
                room = rooms.removeLast();
                due("undo() in step " + step, x.undo(), rooms.size());
            }
            if (step % 4 == 3) {
                due("ROOM in step " + step, x.count(2), room);
            }
        }
    }

    private static void whatIsNoChange() {
        CHECK.sentence("UNDONE: the latest puts(), slot(), tells()");
        LetterFabric x = new LetterFabric();
        x.puts(1, 1, 1);
        x.sees(1, 0);
        x.keep(0);
        x.keep(1);
        x.forget();
        x.sees(2, 0);
        x.drain();
        x.lost(3);
        x.fewest(3);
        x.unseen();
        x.sorted(0);
        x.straight(1);
        due("one may be UNDONE", x.count(11), 1);
        due("undo()", x.undo(), 0);
        due("the puts was it", x.count(4), 0);
        due("SEEN stays", x.count(10), 1);
        due("undo() itself can't be UNDONE", x.undo(), STATE);
        due("IMAGES stay", x.back(1), 1);
    }

    private static void refusedOnesAreNotKnown() {
        CHECK.sentence("UNDONE: the latest puts(), slot(), tells() that was not refused");
        LetterFabric x = new LetterFabric();
        for (int now = 0; now < 99; now++) {
            x.slot();
        }
        x.puts(0, 0, 0);
        for (int i = 0; i < 12; i++) {
            due("slot()", x.slot(), STATE);
            due("puts() on a LINE that has one", x.puts(0, 1, 1), STATE);
            due("tells() what is so", x.tells(1, 8, 8), STATE);
            due("puts() that is BAD", x.puts(8, 0, 0), LetterFabric.BAD);
            due("tells() that is BAD", x.tells(0, 8, 8), LetterFabric.BAD);
        }
        due("may be UNDONE", x.count(11), 10);
        due("the puts", x.undo(), 9);
        due("LETTERS", x.count(4), 0);
        due("a slot", x.undo(), 8);
        due("NOW", x.count(3), 98);
    }

    /** What undo() gives back is all of it, and what comes then is as it would have come. */
    private static void allIsUndone() {
        CHECK.sentence("UNDONE");
        for (Stories.Told told : Stories.all()) {
            LetterFabric x = Looks.made(told.story());
            int known = x.count(11);
            if (known == 10) {
                continue;
            }
            List<Looks.Answer> before = Looks.at(told.story());
            if (x.count(3) < 99) {
                Looks.alike(CHECK, told.name() + "; slot(), undo()",
                        Looks.at(told.story().then(LetterFabric::slot).then(LetterFabric::undo)), before);
            }
            if (x.line(5) == NONE && x.count(4) < 64) {
                Looks.alike(CHECK, told.name() + "; puts(), undo()",
                        Looks.at(told.story().then(y -> y.puts(5, 5, 3)).then(LetterFabric::undo)), before);
            }
            int room = (x.count(2) + 1) % 25;
            Looks.alike(CHECK, told.name() + "; tells(), undo()",
                    Looks.at(told.story().then(y -> y.tells(3, 1, room)).then(LetterFabric::undo)), before);
        }
    }

    public static void main(String[] args) {
        anEmptySlot();
        sixteenSorted();
        onlyTwoKindsAreSorted();
        theFirstNetsWin();
        eachAddressForItself();
        behindWhatIsInTheQueue();
        roomThatAllShare();
        itWinsNoMore();
        roomIsLookedAtBeforeAnyIsOut();
        theBackOnesThatAreAhead();
        theBackOnesOfSixteen();
        moreThanToldStays();
        ofEachQueueTheFirst();
        onlyTheFirst();
        tenAreKnown();
        tenPuts();
        tenTells();
        forthAndBack();
        whatIsNoChange();
        refusedOnesAreNotKnown();
        allIsUndone();
        CHECK.end();
    }
}
