import java.util.ArrayList;
import java.util.List;
import java.util.function.ToLongFunction;

/** Which refusal comes first, that a refused call changes nothing, and that a question changes nothing. */
public final class RefusedTest {
    private static final int BAD = LetterFabric.BAD, STATE = LetterFabric.STATE;
    private static final int FULL = LetterFabric.FULL, NONE = LetterFabric.NONE;
    private static final int MIN = Integer.MIN_VALUE, MAX = Integer.MAX_VALUE;
    private static final Check CHECK = new Check();

    private record Refused(String name, ToLongFunction<LetterFabric> on, int due) {}

    private static void add(List<Refused> all, String name, int due, ToLongFunction<LetterFabric> on) {
        all.add(new Refused(name, on, due));
    }

    // ---- what is refused

    private static List<Refused> badTells() {
        List<Refused> all = new ArrayList<>();
        int[][] rows = {{0, 4, 12}, {4, 4, 12}, {2, -1, 12}, {2, 9, 12}, {2, 4, -1}, {2, 4, 25}, {0, -1, 25},
            {MIN, 4, 12}, {MAX, 4, 12}, {2, MIN, 12}, {2, MAX, 12}, {2, 4, MIN}, {2, 4, MAX}};
        for (int[] r : rows) {
            add(all, "tells(" + r[0] + ", " + r[1] + ", " + r[2] + ")", BAD, x -> x.tells(r[0], r[1], r[2]));
        }
        return all;
    }

    /** On each line, be it free or not: a line that has one is refused as BAD still. */
    private static List<Refused> badPuts() {
        List<Refused> all = new ArrayList<>();
        int[][] rows = {{-1, 4, 2}, {8, 4, 2}, {MIN, 4, 2}, {MAX, 4, 2}, {0, -1, 2}, {3, -1, 2}, {7, -1, 2},
            {0, 8, 2}, {3, 8, 2}, {7, 8, 2}, {0, 4, -1}, {3, 4, -1}, {7, 4, -1}, {0, 4, 4}, {3, 4, 4}, {7, 4, 4},
            {5, MIN, 2}, {5, MAX, 2}, {5, 4, MIN}, {5, 4, MAX}, {8, 8, 4}};
        for (int[] r : rows) {
            add(all, "puts(" + r[0] + ", " + r[1] + ", " + r[2] + ")", BAD, x -> x.puts(r[0], r[1], r[2]));
        }
        return all;
    }

    private static List<Refused> badQuestions() {
        List<Refused> all = new ArrayList<>();
        for (int i : new int[] {MIN, -1, MAX}) {
            int no = i;
            add(all, "letter(" + no + ", 0)", BAD, x -> x.letter(no, 0));
            add(all, "letter(0, " + no + ")", BAD, x -> x.letter(0, no));
            add(all, "line(" + no + ")", BAD, x -> x.line(no));
            add(all, "queue(" + no + ", 0)", BAD, x -> x.queue(no, 0));
            add(all, "straight(" + no + ")", BAD, x -> x.straight(no));
            add(all, "lost(" + no + ")", BAD, x -> x.lost(no));
            add(all, "fewest(" + no + ")", BAD, x -> x.fewest(no));
            add(all, "count(" + no + ")", BAD, x -> x.count(no));
            add(all, "share(" + no + ", 0, 0)", BAD, x -> x.share(no, 0, 0));
            add(all, "share(0, " + no + ", 0)", BAD, x -> x.share(0, no, 0));
            add(all, "share(0, 0, " + no + ")", BAD, x -> x.share(0, 0, no));
        }
        add(all, "letter(64, 0)", BAD, x -> x.letter(64, 0));
        add(all, "letter(0, 7)", BAD, x -> x.letter(0, 7));
        add(all, "line(8)", BAD, x -> x.line(8));
        add(all, "queue(8, 0)", BAD, x -> x.queue(8, 0));
        add(all, "queue(0, -1)", BAD, x -> x.queue(0, -1));
        add(all, "turned(-1)", BAD, x -> x.turned(-1));
        add(all, "sorted(-1)", BAD, x -> x.sorted(-1));
        add(all, "straight(8)", BAD, x -> x.straight(8));
        add(all, "lost(41)", BAD, x -> x.lost(41));
        add(all, "fewest(41)", BAD, x -> x.fewest(41));
        add(all, "share(11, 0, 0)", BAD, x -> x.share(11, 0, 0));
        add(all, "share(0, 9, 0)", BAD, x -> x.share(0, 9, 0));
        add(all, "share(0, 0, 2)", BAD, x -> x.share(0, 0, 2));
        add(all, "count(12)", BAD, x -> x.count(12));
        return all;
    }

    private static List<Refused> badSightsAndImages() {
        List<Refused> all = new ArrayList<>();
        int[][] rows = {{0, 1}, {41, 1}, {1, -1}, {1, 65}, {0, -1}, {MIN, 1}, {MAX, 1}, {1, MIN}, {1, MAX}};
        for (int[] r : rows) {
            add(all, "sees(" + r[0] + ", " + r[1] + ")", BAD, x -> x.sees(r[0], r[1]));
        }
        for (int i : new int[] {MIN, -1, 2, MAX}) {
            int no = i;
            add(all, "keep(" + no + ")", BAD, x -> x.keep(no));
            add(all, "back(" + no + ")", BAD, x -> x.back(no));
        }
        return all;
    }

    /** What is refused by how things are: found by the counts and the lines alone. */
    private static List<Refused> refusedNow(Looks.Story story) {
        List<Refused> all = new ArrayList<>();
        LetterFabric now = Looks.made(story);
        int nets = now.count(0);
        int back = now.count(1);
        int room = now.count(2);
        int letters = now.count(4);
        add(all, "tells what is so", STATE, x -> x.tells(nets, back, room));
        for (int i = 0; i < 8; i++) {
            int line = i;
            if (now.line(line) != NONE) {
                add(all, "puts on line " + line + " that has one", STATE, x -> x.puts(line, 7 - line, 3));
            } else {
                add(all, "straight of line " + line + " that has none", STATE, x -> x.straight(line));
                if (letters == 64) {
                    add(all, "puts on line " + line, FULL, x -> x.puts(line, 7 - line, 3));
                }
            }
        }
        if (now.count(3) == 99) {
            add(all, "slot()", STATE, LetterFabric::slot);
        }
        if (now.count(10) == 6) {
            add(all, "sees(1, 1)", FULL, x -> x.sees(1, 1));
            add(all, "sees(40, 64)", FULL, x -> x.sees(40, 64));
        }
        if (now.count(11) == 0) {
            add(all, "undo()", STATE, LetterFabric::undo);
        }
        add(all, "the letter behind the last", BAD, x -> x.letter(letters, 0));
        return all;
    }

    private static List<Refused> noImage(Stories.Told told) {
        List<Refused> all = new ArrayList<>();
        for (int i = 0; i <= 1; i++) {
            int image = i;
            if ((told.images() & 1 << image) == 0) {
                add(all, "back(" + image + ")", STATE, x -> x.back(image));
            }
        }
        return all;
    }

    // ---- nothing changes

    private static void refusedCallsChangeNothing() {
        CHECK.sentence("Refused, and nothing changes, the first of these: BAD, STATE, FULL");
        for (Stories.Told told : Stories.all()) {
            List<Looks.Answer> before = Looks.at(told.story());
            List<Refused> all = new ArrayList<>();
            all.addAll(badTells());
            all.addAll(badPuts());
            all.addAll(badQuestions());
            all.addAll(badSightsAndImages());
            all.addAll(refusedNow(told.story()));
            all.addAll(noImage(told));
            for (Refused refused : all) {
                String when = told.name() + "; " + refused.name();
                CHECK.due(when, refused.on().applyAsLong(Looks.made(told.story())), refused.due());
                Looks.alike(CHECK, when, Looks.at(told.story().then(refused.on()::applyAsLong)), before);
            }
        }
    }

    /** All that are asked of an object in a look are asked twice: what the second time answers is the same. */
    private static void questionsChangeNothing() {
        CHECK.sentence("(.. nothing is changed.)");
        List<Looks.Call> questions = new ArrayList<>(Looks.QUESTIONS);
        questions.add(new Looks.Call("share(7, 3, 0)", x -> x.share(7, 3, 0)));
        questions.add(new Looks.Call("share(7, 3, 1)", x -> x.share(7, 3, 1)));
        for (Stories.Told told : Stories.all()) {
            List<Looks.Answer> before = Looks.at(told.story());
            for (int from = 0; from < questions.size(); from += 100) {
                List<Looks.Call> some = questions.subList(from, Math.min(from + 100, questions.size()));
                Looks.Story asked = told.story().then(x -> some.forEach(q -> q.on().applyAsLong(x)));
                Looks.alike(CHECK, told.name() + "; questions from " + some.get(0).name(), Looks.at(asked), before);
            }
        }
    }

    // ---- which comes first

    private static void badAheadOfState() {
        CHECK.sentence("the first of these: BAD .., STATE .., FULL");
        LetterFabric x = Looks.made(Stories::fullLines);
        for (int line = 0; line < 8; line++) {
            CHECK.due("the LINE has one", x.puts(line, 0, 0), STATE);
            CHECK.due("and the ADDRESS is none", x.puts(line, 8, 0), BAD);
            CHECK.due("and the ADDRESS is none", x.puts(line, -1, 0), BAD);
            CHECK.due("and the PRIORITY is none", x.puts(line, 0, 4), BAD);
            CHECK.due("and the PRIORITY is none", x.puts(line, 0, -1), BAD);
        }
    }

    private static void stateAheadOfFull() {
        CHECK.sentence("the first of these: BAD .., STATE .., FULL");
        LetterFabric x = Looks.made(Stories::fullOfLettersAndLines);
        CHECK.due("LETTERS", x.count(4), 64);
        for (int line = 0; line < 8; line++) {
            CHECK.due("64, and the LINE has one", x.puts(line, 0, 0), STATE);
            CHECK.due("64, and the LINE has one, and the ADDRESS is none", x.puts(line, 8, 0), BAD);
        }
        x.slot();
        for (int line = 0; line < 8; line++) {
            CHECK.due("64", x.puts(line, 0, 0), FULL);
            CHECK.due("64, and the ADDRESS is none", x.puts(line, 8, 0), BAD);
            CHECK.due("64, and the PRIORITY is none", x.puts(line, 0, 4), BAD);
        }
        CHECK.due("64, and there is no such LINE", x.puts(8, 0, 0), BAD);
        CHECK.due("64, and there is no such LINE", x.puts(-1, 0, 0), BAD);
    }

    private static void badAheadOfFull() {
        CHECK.sentence("the first of these: BAD .., STATE .., FULL");
        LetterFabric x = Looks.made(Stories::fullLines);
        CHECK.due("SEEN", x.count(10), 6);
        CHECK.due("six", x.sees(1, 0), FULL);
        CHECK.due("six", x.sees(40, 64), FULL);
        CHECK.due("six, and n is none", x.sees(0, 0), BAD);
        CHECK.due("six, and n is none", x.sees(41, 0), BAD);
        CHECK.due("six, and m is none", x.sees(1, -1), BAD);
        CHECK.due("six, and m is none", x.sees(1, 65), BAD);
    }

    private static void badAheadOfAllElse() {
        CHECK.sentence("the first of these: BAD .., STATE .., FULL");
        LetterFabric x = new LetterFabric();
        CHECK.due("no IMAGE was kept", x.back(0), STATE);
        CHECK.due("there is no such IMAGE", x.back(2), BAD);
        CHECK.due("there is no such IMAGE", x.back(-1), BAD);
        CHECK.due("the LINE has none", x.straight(7), STATE);
        CHECK.due("there is no such LINE", x.straight(8), BAD);
        CHECK.due("there is no such LINE", x.straight(-1), BAD);
        CHECK.due("NETS and BACK are so, ROOM is none", x.tells(1, 8, 25), BAD);
        CHECK.due("NETS and ROOM are so, BACK is none", x.tells(1, 9, 8), BAD);
        CHECK.due("BACK and ROOM are so, NETS are none", x.tells(0, 8, 8), BAD);
        CHECK.due("all are so", x.tells(1, 8, 8), STATE);
    }

    public static void main(String[] args) {
        badAheadOfState();
        stateAheadOfFull();
        badAheadOfFull();
        badAheadOfAllElse();
        refusedCallsChangeNothing();
        questionsChangeNothing();
        CHECK.end();
    }
}
