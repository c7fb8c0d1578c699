/** Promises 20 to 22: keep, back, count. */
public final class ImagesTest {
    private static final int BAD = LetterFabric.BAD, STATE = LetterFabric.STATE, NONE = LetterFabric.NONE;
    private static final int MIN = Integer.MIN_VALUE, MAX = Integer.MAX_VALUE;
    private static final int[] NO_IMAGES = {MIN, -1, 2, MAX};
    private static final Check CHECK = new Check();

    private static void due(String call, long got, long want) {
        CHECK.due(call, got, want);
    }

    private static LetterFabric busy() {
        LetterFabric x = new LetterFabric();
        x.tells(2, 1, 9);
        for (int line = 0; line < 4; line++) {
            x.puts(line, 6, line);
        }
        x.slot();
        x.puts(5, 1, 0);
        return x;
    }

    private static void promise20Keep() {
        LetterFabric x = new LetterFabric();
        due("keep of none", x.keep(0), 0);
        x.puts(0, 0, 0);
        due("keep(1)", x.keep(1), 1);
        for (int no : NO_IMAGES) {
            due("keep(" + no + ")", x.keep(no), BAD);
        }
        due("keep can't be undone", x.count(11), 1);
        x.puts(1, 1, 0);
        due("keep again", x.keep(1), 2);
        x.clear();
        x.keep(0);
        due("the other one is gone", x.back(1), STATE);
    }

    private static void promise21Back() {
        LetterFabric x = busy();
        due("none was kept", x.back(0), STATE);
        x.keep(0);
        due("none was kept here", x.back(1), STATE);
        for (int no : NO_IMAGES) {
            due("back(" + no + ")", x.back(no), BAD);
        }
        due("refused: all may be undone", x.count(11), 7);
        x.tells(3, 8, 24);
        x.slot();
        x.slot();
        x.sees(3, 3);
        due("back(0)", x.back(0), 5);
        int[] counts = {2, 1, 9, 1, 5, 1, 1, 1, 1, 1, 1, 0};
        for (int what = 0; what < counts.length; what++) {
            due("count(" + what + ")", x.count(what), counts[what]);
        }
        due("nothing can be undone", x.undo(), STATE);
        due("the queue", x.queue(6, 0), 2);
        due("turned back", x.turned(0), 1);
        due("at its line", x.line(5), 4);
        due("not ended", x.letter(4, 5), NONE);
        due("rounds", x.letter(1, 6), 1);
    }

    private static void promise21AnImageStays() {
        LetterFabric x = busy();
        x.keep(0);
        x.slot();
        x.keep(1);
        x.puts(0, 0, 0);
        due("back(0)", x.back(0), 5);
        x.slot();
        x.slot();
        x.puts(7, 7, 3);
        due("again back(0)", x.back(0), 5);
        due("now of image 0", x.count(3), 1);
        due("back(1)", x.back(1), 5);
        due("now of image 1", x.count(3), 2);
        due("no letter at line 0", x.line(0), NONE);
        x.puts(0, 0, 0);
        due("undo what came behind back", x.undo(), 0);
        due("no more", x.undo(), STATE);
        due("now of image 1", x.count(3), 2);
    }

    private static void promise22Count() {
        LetterFabric x = busy();
        x.sees(1, 1);
        x.sees(1, 1);
        int[] counts = {2, 1, 9, 1, 5, 1, 1, 1, 1, 1, 2, 7};
        for (int what = 0; what < counts.length; what++) {
            due("count(" + what + ")", x.count(what), counts[what]);
        }
        due("count(-1)", x.count(-1), BAD);
        due("count(12)", x.count(12), BAD);
        due("count(MIN)", x.count(MIN), BAD);
        due("count(MAX)", x.count(MAX), BAD);
    }

    public static void main(String[] args) {
        promise20Keep();
        promise21Back();
        promise21AnImageStays();
        promise22Count();
        CHECK.end();
    }
}
