import java.util.ArrayList;
import java.util.List;
import java.util.function.ToLongFunction;

/** All runs of four calls out of sixteen, behind some beginnings: each answer is PlainFabric's. */
public final class ShortRunsTest {
    private static final int LENGTH = 4;
    private static final Check CHECK = new Check();

    private record Step(String name, ToLongFunction<LetterFabric> real, ToLongFunction<PlainFabric> plain) {}

    private static final Step SLOT = new Step("slot()", LetterFabric::slot, PlainFabric::slot);
    private static final List<Step> STEPS = List.of(SLOT, puts(0, 0, 0), puts(1, 0, 3), puts(6, 5, 1), tells(2, 1, 1),
            tells(1, 0, 8), tells(3, 2, 0),
            new Step("undo()", LetterFabric::undo, PlainFabric::undo),
            new Step("clear()", LetterFabric::clear, PlainFabric::clear),
            new Step("keep(0)", x -> x.keep(0), p -> p.keep(0)),
            new Step("keep(1)", x -> x.keep(1), p -> p.keep(1)),
            new Step("back(0)", x -> x.back(0), p -> p.back(0)),
            new Step("back(1)", x -> x.back(1), p -> p.back(1)),
            new Step("sees(1, 1)", x -> x.sees(1, 1), p -> p.sees(1, 1)),
            new Step("sees(2, 0)", x -> x.sees(2, 0), p -> p.sees(2, 0)),
            new Step("forget()", LetterFabric::forget, PlainFabric::forget));
    private static final List<Step> QUESTIONS = questions();

    private ShortRunsTest() {}

    private static Step puts(int line, int address, int priority) {
        return new Step("puts(" + line + ", " + address + ", " + priority + ")",
                x -> x.puts(line, address, priority), p -> p.puts(line, address, priority));
    }

    private static Step tells(int nets, int back, int room) {
        return new Step("tells(" + nets + ", " + back + ", " + room + ")",
                x -> x.tells(nets, back, room), p -> p.tells(nets, back, room));
    }

    private static List<Step> questions() {
        List<Step> all = new ArrayList<>();
        for (int i = 0; i < 12; i++) {
            int what = i;
            all.add(new Step("count(" + what + ")", x -> x.count(what), p -> p.count(what)));
        }
        for (int i = 0; i < 3; i++) {
            int n = i;
            all.add(new Step("letter(" + n + ", 0)", x -> x.letter(n, 0), p -> p.letter(n, 0)));
            all.add(new Step("letter(" + n + ", 5)", x -> x.letter(n, 5), p -> p.letter(n, 5)));
            all.add(new Step("letter(" + n + ", 6)", x -> x.letter(n, 6), p -> p.letter(n, 6)));
        }
        all.add(new Step("queue(0, 0)", x -> x.queue(0, 0), p -> p.queue(0, 0)));
        all.add(new Step("turned(0)", x -> x.turned(0), p -> p.turned(0)));
        all.add(new Step("sorted(0)", x -> x.sorted(0), p -> p.sorted(0)));
        all.add(new Step("straight(1)", x -> x.straight(1), p -> p.straight(1)));
        all.add(new Step("drain()", LetterFabric::drain, PlainFabric::drain));
        all.add(new Step("lost(1)", x -> x.lost(1), p -> p.lost(1)));
        all.add(new Step("unseen()", LetterFabric::unseen, PlainFabric::unseen));
        return all;
    }

    private static List<List<Step>> beginnings() {
        List<Step> allPlaces = List.of(
                tells(2, 1, 9), puts(0, 0, 3), puts(1, 0, 2), puts(2, 0, 1), puts(3, 0, 0), SLOT);
        List<Step> nineKnown = new ArrayList<>(List.of(
                puts(0, 0, 0), puts(1, 0, 0), puts(2, 0, 0), puts(3, 5, 0), SLOT));
        for (int room = 9; room <= 12; room++) {
            nineKnown.add(tells(1, 8, room));
        }
        return List.of(List.of(), allPlaces, nineKnown);
    }

    private static void compare(Step step, LetterFabric x, PlainFabric p, StringBuilder run) {
        run.append("; ").append(step.name());
        CHECK.due(run.toString(), step.real().applyAsLong(x), step.plain().applyAsLong(p));
    }

    private static void oneRun(List<Step> beginning, int number) {
        LetterFabric x = new LetterFabric();
        PlainFabric p = new PlainFabric();
        StringBuilder run = new StringBuilder("new");
        for (Step step : beginning) {
            compare(step, x, p, run);
        }
        int rest = number;
        for (int i = 0; i < LENGTH; i++) {
            compare(STEPS.get(rest % STEPS.size()), x, p, run);
            rest /= STEPS.size();
        }
        int end = run.length();
        for (Step question : QUESTIONS) {
            compare(question, x, p, run);
            run.setLength(end);
        }
    }

    public static void main(String[] args) {
        int runs = 1;
        for (int i = 0; i < LENGTH; i++) {
            runs *= STEPS.size();
        }
        for (List<Step> beginning : beginnings()) {
            for (int number = 0; number < runs; number++) {
                oneRun(beginning, number);
            }
        }
        CHECK.end();
    }
}
