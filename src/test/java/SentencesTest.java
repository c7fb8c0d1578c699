import java.io.IOException;
import java.nio.file.Files;
import java.nio.file.Path;

/**
 * The document from its first line to its last, each sentence with the tests that fail if it is broken. It fails if
 * the document says something that does not stand here, or if a test named here is not there or not run.
 */
public final class SentencesTest {
    private static final Check CHECK = new Check();
    private static final Path ROOT = Path.of(System.getProperty("project.root", "."));
    /** What of the document has not been gone through yet, in one line. */
    private static String left;

    private static void goOn(String words) {
        boolean next = left.startsWith(words);
        CHECK.holds("'" + words + "' comes next, not '" + left.substring(0, Math.min(80, left.length())) + "'", next);
        int at = left.indexOf(words);
        left = at < 0 ? left : left.substring(at + words.length()).strip();
    }

    /** A sentence, and the tests of it as Class.method. */
    private static void said(String words, String... tests) {
        goOn(words);
        CHECK.holds("'" + words + "' has a test", tests.length > 0);
        for (String test : tests) {
            String[] names = test.split("\\.");
            CHECK.holds(test + " is run", isRun(names[0], names[1]));
        }
    }

    /** Words that promise nothing: a heading, or what is left free. */
    private static void free(String words) {
        goOn(words);
    }

    private static boolean isRun(String name, String method) {
        try {
            String text = Files.readString(ROOT.resolve(Path.of("src", "test", "java", name + ".java")));
            int main = text.indexOf("public static void main(");
            return main >= 0 && text.contains("static void " + method + "(") && text.indexOf(method + "(", main) >= 0;
        } catch (IOException e) {
            return false;
        }
    }

    private static String inOneLine(String document) {
        return document.replaceAll("(?s)```java\n.*?```", " ").replaceAll("(?m)^(#+ .*|```.*)$", " ")
                .replaceAll("\\s+", " ").strip();
    }

    private static void whatItIs() {
        free("A fabric that sorts its letters: eight lines in, eight out; letters put on lines, sorted with those that "
                + "were turned back, the first so many of each address let through nets that set one bit of the address "
                + "in each stage, the others turned back and sorted again, or dropped; queues with a room that all "
                + "share; slots that go by, all undone; where each letter is, when it came out, how often it was turned "
                + "back; what a net alone would do with letters that nobody sorted; how long till all are out, how many "
                + "would be dropped, by how many nets none; how many are lost on the average by what lines carry, as an "
                + "exact fraction; which line is dead, by what comes out; images.");
        said("======== 1 NETS (1 ..", "TermsEdgesTest.netsBackAndRoom");
        said("An object is used for at most 512 calls after it has been made; what later calls answer is free.",
                "TermsEdgesTest.upToTheLastCall");
    }

    private static void terms() {
        said("3; 1 at first), BACK (0 .. 8; 8 at first), ROOM (0 .. 24; 8 at first).",
                "TermsEdgesTest.netsBackAndRoom", "DoneTest.promise1NewObject");
        said("LINES 0 to 7, ADDRESSES 0 to 7, each with a QUEUE.",
                "TermsEdgesTest.linesAddressesAndPriority", "TermsEdgesTest.eachAddressHasItsQueue");
        said("LETTERS 0, 1, .. (64 at most), each put on a LINE, with an ADDRESS and a PRIORITY (0 .. 3).",
                "TermsEdgesTest.sixtyFourLetters", "TermsEdgesTest.sixtyFourThatAreNotOut",
                "TermsEdgesTest.linesAddressesAndPriority");
        said("SLOTS 0, 1, ..; NOW is the next one (0 at first).", "TermsEdgesTest.ninetyNineSlots");
        said("A LETTER is at its LINE, TURNED BACK, in the QUEUE of its ADDRESS, OUT, or DROPPED.",
                "TermsEdgesTest.aLetterIsAtOnePlace", "WhereTest.promise7Letter");
        said("ROUNDS of it: how often it was TURNED BACK.", "TermsEdgesTest.roundsOfALetter");
        said("A LETTER is AHEAD of another one, if its PRIORITY is higher; of like ones, if its number is lower.",
                "TermsEdgesTest.whoIsAhead", "TermsEdgesTest.aheadOfThoseTurnedBack");
    }

    private static void aSlot() {
        said("======== 2 A SLOT, NOW being t, in this order:", "SlotEdgesTest.roomIsLookedAtBeforeAnyIsOut",
                "DoneTest.promise4Queues");
        said("1 SORTED: all LETTERS that are at LINES or TURNED BACK,", "SlotEdgesTest.onlyTwoKindsAreSorted");
        said("by ADDRESSES, of one ADDRESS those that are AHEAD first.", "SlotEdgesTest.sixteenSorted");
        said("2 Of each ADDRESS the first NETS of these WIN.", "SlotEdgesTest.theFirstNetsWin",
                "SlotEdgesTest.eachAddressForItself");
        said("WINNERS come to their QUEUES (behind what is in them), in the order in which they are SORTED;",
                "SlotEdgesTest.behindWhatIsInTheQueue");
        said("one that finds ROOM LETTERS or more in all QUEUES together does not (it WINS no more).",
                "SlotEdgesTest.roomThatAllShare", "SlotEdgesTest.itWinsNoMore");
        said("3 All others of them are TURNED BACK (once more): the BACK ones of these that are AHEAD of all others;",
                "SlotEdgesTest.theBackOnesThatAreAhead", "SlotEdgesTest.theBackOnesOfSixteen");
        said("the rest is DROPPED.", "SlotEdgesTest.theBackOnesThatAreAhead", "SlotEdgesTest.theBackOnesOfSixteen");
        said("4 Of each QUEUE that has a LETTER the first one is OUT.", "SlotEdgesTest.ofEachQueueTheFirst",
                "SlotEdgesTest.onlyTheFirst");
        said("NOW is t and 1.", "SlotEdgesTest.ofEachQueueTheFirst");
        said("UNDONE: the latest puts(), slot(), tells() that was not refused", "SlotEdgesTest.allIsUndone",
                "SlotEdgesTest.tenPuts", "SlotEdgesTest.whatIsNoChange", "SlotEdgesTest.refusedOnesAreNotKnown");
        said("(10 are known, older ones are lost).", "SlotEdgesTest.tenAreKnown", "SlotEdgesTest.tenTells");
    }

    private static void whatWouldCome() {
        said("======== 3 STRAIGHT: the LETTERS that are at LINES, unsorted:", "WhereTest.promise12OnlyLines",
                "WhereEdgesTest.twoInTheNet");
        said("each begins at the place of its LINE;", "WhereEdgesTest.twoInTheNet");
        said("in stages 1, 2, 3 the bit of its place that is worth 4, 2, 1 becomes that of its ADDRESS.",
                "WhereEdgesTest.twoInTheNet");
        said("Where several are at one place behind a stage, that of the lowest LINE goes on, the others are BLOCKED in "
                + "that stage.", "WhereEdgesTest.allThreesInTheNet", "WhereEdgesTest.fullNet");
        said("(What follows is as things are NOW, nothing more being put; nothing is changed.)",
                "ComeEdgesTest.lookedAheadBehindTheLastSlot", "ComeTest.promise19AsThingsAreNow",
                "RefusedTest.questionsChangeNothing");
        said("DRAIN: the fewest SLOTS (0 .. 99) behind which each LETTER is OUT or DROPPED;",
                "ComeEdgesTest.drainOfNone", "ComeEdgesTest.drainOfOneAddress", "ComeEdgesTest.theLongestDrain");
        said("NONE.", "ComeEdgesTest.drainWithoutRoom");
        said("LOST in n SLOTS (0 .. 40): how many would be DROPPED in these.", "ComeEdgesTest.slotsLookedAhead",
                "ComeEdgesTest.mostAreLost", "ComeEdgesTest.whatIsDroppedAlreadyDoesNotCount");
        said("FEWEST for n: the least NETS (1 .. 3) by which none would; NONE.", "ComeEdgesTest.theFewestNets");
        said("SHARE of x, l (x 0 .. 10, l 0 .. 8): in each SLOT each LINE has a LETTER by x of 10, for itself, to each "
                + "ADDRESS alike;", "ComeTest.promise16AsThePlainOne", "ComeEdgesTest.shareOfAnyFabric");
        said("an ADDRESS takes l of those that come to it;", "ComeEdgesTest.sharesFallByWhatIsTaken",
                "ComeEdgesTest.endsOfShare");
        said("how many are not taken on the average, of one ADDRESS: a fraction in least terms.",
                "ComeEdgesTest.endsOfShare", "ComeTest.promise16Share");
        said("SEEN (6 at most):", "ComeEdgesTest.sixAreSeen", "ComeEdgesTest.theSeventhIsNotSeen");
        said("in the next n SLOTS (1 .. 40) m LETTERS would come OUT, if that of one unknown LINE (that has one) were not "
                + "there.", "ComeEdgesTest.asFarAsFortySlots", "ComeEdgesTest.anotherComesInItsPlace",
                "ComeEdgesTest.noneOrAllComeOut");
        said("UNSEEN: LINES (bits) by which all that was SEEN is so.", "ComeEdgesTest.nothingWasSeen",
                "ComeEdgesTest.oneLineIsDead", "ComeEdgesTest.eachOfSixCounts");
    }

    private static void imagesAndRefusals() {
        said("IMAGES 0, 1 keep all that 2 changes, NETS, BACK, ROOM;", "ImagesEdgesTest.allOfThat",
                "ImagesEdgesTest.anImageHasWhatWasThere", "ImagesEdgesTest.fullImages");
        said("nothing else", "ImagesEdgesTest.nothingElse");
        said("(nothing can be UNDONE behind back()).", "ImagesEdgesTest.nothingIsUndoneBehindBack");
        said("Refused, and nothing changes,", "RefusedTest.refusedCallsChangeNothing",
                "ComeEdgesTest.theSeventhIsNotSeen", "TermsEdgesTest.sixtyFourThatAreNotOut");
        said("the first of these: BAD (a number is not as told, or there is no such thing), STATE (as told), FULL.",
                "RefusedTest.badAheadOfState", "RefusedTest.stateAheadOfFull", "RefusedTest.badAheadOfFull",
                "RefusedTest.badAheadOfAllElse");
        String[] ahead = {
            "`tells`, `puts`, `slot`, `undo`, `clear` the interface says: ---- what is done.",
            "`letter`, `line`, `queue`, `turned`, `sorted`, `straight` the interface says: ---- where letters are.",
            "`drain`, `lost`, `fewest`, `share` the interface says: ---- what would come.",
            "`sees`, `forget`, `unseen` the interface says: ---- which line.",
            "`keep`, `back`, `count` the interface says: ---- images.",
        };
        for (String calls : ahead) {
            said("Ahead of the calls " + calls, "FaceTest.faceIsInOrder");
        }
    }

    private static void promises1To6() {
        said("`LetterFabric()`: No LETTERS.", "DoneTest.promise1NewObject", "ObjectsTest.eachForItself");
        said("`int tells(int nets, int back, int room)`: NETS, BACK, ROOM are others", "DoneTest.promise2Tells");
        said("(what is TURNED BACK, in QUEUES stays, though it be more than these): 1.",
                "DoneTest.promise2WhatIsThereStays", "SlotEdgesTest.moreThanToldStays");
        said("BAD; STATE: they are so.", "TermsEdgesTest.netsBackAndRoom", "TermsEdgesTest.tellsWhatIsSo");
        said("`int puts(int line, int address, int priority)`: A LETTER is put on a LINE: its number.",
                "DoneTest.promise3Puts", "TermsEdgesTest.linesAddressesAndPriority");
        said("BAD; STATE: the LINE has one; FULL: 64.", "TermsEdgesTest.aLineThatHasOne",
                "TermsEdgesTest.aLineIsFreeBehindASlot", "TermsEdgesTest.sixtyFourLetters");
        said("`int slot()`: A SLOT goes by: how many are OUT in it.", "SlotEdgesTest.ofEachQueueTheFirst",
                "SlotEdgesTest.onlyTheFirst", "SlotEdgesTest.anEmptySlot", "DoneTest.promise4Winners");
        said("STATE: NOW is 99.", "TermsEdgesTest.ninetyNineSlots", "TermsEdgesTest.lettersOfTheLastSlot");
        said("`int undo()`: UNDONE: how many more may be.", "SlotEdgesTest.forthAndBack", "DoneTest.promise5Undo");
        said("STATE: none.", "SlotEdgesTest.tenAreKnown");
        said("`int clear()`: All is as at first (nothing can be UNDONE, nothing SEEN, IMAGES are gone): how many LETTERS "
                + "there were.", "ImagesEdgesTest.allIsAsAtFirst", "DoneTest.promise6Clear");
    }

    private static void promises7To12() {
        said("`int letter(int n, int what)`: Of a LETTER: 0 where it is (0 at its LINE, 1 TURNED BACK, 2 in a QUEUE, 3 "
                + "OUT, 4 DROPPED), 1 its LINE, 2 ADDRESS, 3 PRIORITY,", "WhereTest.promise7Letter",
                "WhereEdgesTest.whatOfALetter");
        said("4 the SLOT that was NOW when it was put,", "WhereTest.promise7Letter", "TermsEdgesTest.lettersOfTheLastSlot");
        said("5 the SLOT in which it was OUT or DROPPED (NONE), 6 ROUNDS.", "WhereEdgesTest.theSlotOfItsEnd",
                "WhereTest.promise7Rounds");
        said("BAD.", "WhereEdgesTest.theLastLetterAndTheNext", "WhereEdgesTest.aLetterThatIsNoMore",
                "WhereEdgesTest.whatOfALetter");
        said("`int line(int line)`: The LETTER at a LINE; NONE. BAD.", "WhereEdgesTest.linesThatHaveNone",
                "WhereTest.promise8Line");
        said("`int queue(int address, int k)`: The k-th (0 on) LETTER of a QUEUE; NONE.", "WhereEdgesTest.theLastOfAQueue",
                "WhereEdgesTest.theLongestQueue", "WhereTest.promise9Queue");
        said("BAD (k below 0).", "WhereEdgesTest.queuesThatAreNone");
        said("`int turned(int k)`: The k-th (0 on) of those that are TURNED BACK, the one that is AHEAD of all others "
                + "first; NONE.", "WhereEdgesTest.theLastThatIsTurnedBack", "WhereTest.promise10Turned");
        said("BAD (k below 0).", "WhereEdgesTest.rowsHaveEnds");
        said("`int sorted(int k)`: The k-th (0 on) as they would be SORTED NOW; NONE.", "WhereEdgesTest.sortedNow",
                "WhereTest.promise11Sorted");
        said("BAD (k below 0).", "WhereEdgesTest.rowsHaveEnds");
        said("`int straight(int line)`: STRAIGHT: the stage in which the LETTER at a LINE is BLOCKED (1 to 3), 0: it comes "
                + "through.", "WhereTest.promise12Straight", "WhereEdgesTest.allThreesInTheNet");
        said("BAD; STATE: the LINE has none.", "WhereEdgesTest.linesThatHaveNoneToSend");
    }

    private static void promises13To19() {
        said("`int drain()`: DRAIN; NONE.", "ComeTest.promise13Drain", "ComeTest.promise13QueuesToo");
        said("`int lost(int n)`: LOST in n SLOTS. BAD.", "ComeTest.promise14Lost", "ComeEdgesTest.slotsLookedAhead");
        said("`int fewest(int n)`: FEWEST for n SLOTS (0 .. 40); NONE. BAD.", "ComeTest.promise15Fewest",
                "ComeEdgesTest.slotsLookedAhead");
        said("`long share(int x, int l, int what)`: SHARE: upper (what = 0), lower number (1).", "ComeTest.promise16Share");
        said("BAD.", "ComeEdgesTest.refusedShares");
        said("`int sees(int n, int m)`: SEEN: how much there is.", "ComeTest.promise17Sees", "ComeEdgesTest.sixAreSeen");
        said("BAD (m 0 .. 64); FULL: 6.", "ComeEdgesTest.whatMayBeSeen", "ComeEdgesTest.theSeventhIsNotSeen");
        said("`int forget()`: Nothing is SEEN: how much was.", "ComeTest.promise18Forget", "ComeEdgesTest.sixAreSeen");
        said("`int unseen()`: UNSEEN (bits).", "ComeTest.promise19Unseen", "ComeTest.promise19Room");
    }

    private static void promises20To22() {
        said("`int keep(int image)`: An IMAGE is kept: LETTERS.", "ImagesEdgesTest.anImageOfNoLetters",
                "ImagesEdgesTest.keptAnew", "ImagesEdgesTest.keepTakesNothingAway", "ImagesTest.promise20Keep");
        said("BAD.", "ImagesEdgesTest.twoImages");
        said("`int back(int image)`: All of that becomes as an IMAGE has it: LETTERS.", "ImagesTest.promise21Back",
                "ImagesTest.promise21AnImageStays", "ImagesEdgesTest.allOfThat");
        said("BAD; STATE: none was kept.", "ImagesEdgesTest.twoImages", "ImagesEdgesTest.noneWasKept");
        said("`int count(int what)`: 0 NETS, 1 BACK, 2 ROOM, 3 NOW, 4 LETTERS, 5 of these at LINES, 6 TURNED BACK, 7 in "
                + "QUEUES, 8 OUT, 9 DROPPED, 10 SEEN, 11 how many may be UNDONE.", "ImagesTest.promise22Count",
                "WhereEdgesTest.storiesAreAsTold");
        said("BAD.", "WhereEdgesTest.whatIsCounted");
    }

    private static void notPromised() {
        free("How the state is held inside the object is free, as are the speed of each call, the text of toString and the "
                + "behaviour of equals and hashCode. Use of one object from several threads at once is not promised to be "
                + "safe. Nothing is promised beyond the answers and state changes described above, and nothing about an "
                + "object after its 512th call.");
        CHECK.due("words of the document that are left: '" + left + "'", left.length(), 0);
    }

    public static void main(String[] args) throws IOException {
        left = inOneLine(Files.readString(ROOT.resolve(Path.of("..", "shared", "DOC.md"))));
        whatItIs();
        terms();
        aSlot();
        whatWouldCome();
        imagesAndRefusals();
        promises1To6();
        promises7To12();
        promises13To19();
        promises20To22();
        notPromised();
        CHECK.end();
    }
}
