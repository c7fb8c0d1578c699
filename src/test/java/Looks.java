import java.util.ArrayList;
import java.util.List;
import java.util.function.ToLongFunction;

/**
 * All that can be seen of an object that a run of calls has made: as it is, a slot later, undone step by step,
 * and by its images. The run is told anew for each part, as nothing is promised of an object behind its 512th call.
 */
final class Looks {
    private static final int A_PART = 240, MOST_UNDONE = 10;

    /** A run of calls, some 250 at most, that always makes the same object. */
    interface Story {
        void tell(LetterFabric x);

        default Story then(Story more) {
            return x -> {
                tell(x);
                more.tell(x);
            };
        }
    }

    record Call(String name, ToLongFunction<LetterFabric> on) {}

    record Answer(String name, long number) {}

    static final List<Call> QUESTIONS = questions();

    private Looks() {}

    static LetterFabric made(Story story) {
        LetterFabric x = new LetterFabric();
        story.tell(x);
        return x;
    }

    private static List<Call> questions() {
        List<Call> all = new ArrayList<>();
        for (int i = 0; i < 12; i++) {
            int what = i;
            all.add(new Call("count(" + what + ")", x -> x.count(what)));
        }
        for (int i = 0; i < 64 * 7; i++) {
            int n = i / 7;
            int what = i % 7;
            all.add(new Call("letter(" + n + ", " + what + ")", x -> x.letter(n, what)));
        }
        for (int i = 0; i < 8 * 24; i++) {
            int address = i / 24;
            int k = i % 24;
            all.add(new Call("queue(" + address + ", " + k + ")", x -> x.queue(address, k)));
        }
        for (int i = 0; i < 17; i++) {
            int k = i;
            all.add(new Call("turned(" + k + ")", x -> x.turned(k)));
            all.add(new Call("sorted(" + k + ")", x -> x.sorted(k)));
        }
        for (int i = 0; i < 8; i++) {
            int line = i;
            all.add(new Call("line(" + line + ")", x -> x.line(line)));
            all.add(new Call("straight(" + line + ")", x -> x.straight(line)));
        }
        for (int i : new int[] {0, 1, 2, 40}) {
            int n = i;
            all.add(new Call("lost(" + n + ")", x -> x.lost(n)));
            all.add(new Call("fewest(" + n + ")", x -> x.fewest(n)));
        }
        all.add(new Call("drain()", LetterFabric::drain));
        all.add(new Call("unseen()", LetterFabric::unseen));
        return all;
    }

    private static void lookFrom(String where, Story story, List<Answer> answers) {
        LetterFabric x = null;
        for (int i = 0; i < QUESTIONS.size(); i++) {
            if (i % A_PART == 0) {
                x = made(story);
            }
            Call question = QUESTIONS.get(i);
            answers.add(new Answer(where + question.name(), question.on().applyAsLong(x)));
        }
    }

    private static void stepFrom(Story before, Call step, String where, List<Answer> answers) {
        answers.add(new Answer(where + step.name(), step.on().applyAsLong(made(before))));
        lookFrom(where + step.name() + "; ", before.then(step.on()::applyAsLong), answers);
    }

    static List<Answer> at(Story story) {
        List<Answer> answers = new ArrayList<>();
        lookFrom("", story, answers);
        stepFrom(story, new Call("slot()", LetterFabric::slot), "", answers);
        stepFrom(story, new Call("back(0)", x -> x.back(0)), "", answers);
        stepFrom(story, new Call("back(1)", x -> x.back(1)), "", answers);
        Story undone = story;
        for (int i = 0; i <= MOST_UNDONE; i++) {
            stepFrom(undone, new Call("undo()", LetterFabric::undo), i + " times undone; ", answers);
            undone = undone.then(LetterFabric::undo);
        }
        return answers;
    }

    /** Tells the first few that differ, so that a fault does not flood the page. */
    static void alike(Check check, String what, List<Answer> got, List<Answer> want) {
        check.due(what + ", how much is seen", got.size(), want.size());
        int told = 0;
        for (int i = 0; i < got.size() && i < want.size() && told < 3; i++) {
            check.due(what + ": " + got.get(i).name(), got.get(i).number(), want.get(i).number());
            told += got.get(i).number() == want.get(i).number() ? 0 : 1;
        }
    }
}
