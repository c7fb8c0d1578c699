import java.util.List;

/** The edges of keep, back and clear: which images there are, what they hold, and what they do not. */
public final class ImagesEdgesTest {
    private static final int BAD = LetterFabric.BAD, STATE = LetterFabric.STATE;
    private static final int FULL = LetterFabric.FULL, NONE = LetterFabric.NONE;
    private static final int MIN = Integer.MIN_VALUE, MAX = Integer.MAX_VALUE;
    private static final int[] FAR = {MIN, MIN + 1, -256, -9, -2, 3, 256, 1 << 16, MAX - 1, MAX};
    private static final Check CHECK = new Check();

    private static void due(String call, long got, long want) {
        CHECK.due(call, got, want);
    }

    // ---- which images there are

    private static void twoImages() {
        CHECK.sentence("IMAGES 0, 1; BAD");
        for (Stories.Told told : Stories.all()) {
            LetterFabric x = Looks.made(told.story());
            int letters = x.count(4);
            due(told.name() + "; keep(-1)", x.keep(-1), BAD);
            due(told.name() + "; keep(2)", x.keep(2), BAD);
            due(told.name() + "; back(-1)", x.back(-1), BAD);
            due(told.name() + "; back(2)", x.back(2), BAD);
            for (int far : FAR) {
                due(told.name() + "; keep(" + far + ")", x.keep(far), BAD);
                due(told.name() + "; back(" + far + ")", x.back(far), BAD);
            }
            for (int image = 0; image <= 1; image++) {
                due(told.name() + "; keep(" + image + ")", x.keep(image), letters);
                due(told.name() + "; back(" + image + ")", x.back(image), letters);
            }
        }
    }

    private static void noneWasKept() {
        CHECK.sentence("STATE: none was kept");
        for (int image = 0; image <= 1; image++) {
            LetterFabric x = new LetterFabric();
            x.puts(4, 4, 0);
            due("back(0)", x.back(0), STATE);
            due("back(1)", x.back(1), STATE);
            due("keep(" + image + ")", x.keep(image), 1);
            due("the other one", x.back(1 - image), STATE);
            due("may be UNDONE", x.count(11), 1);
            x.undo();
            due("that which was kept", x.back(image), 1);
            due("the other one still", x.back(1 - image), STATE);
            due("again and again", x.back(image), 1);
            x.clear();
            due("gone behind clear", x.back(image), STATE);
            due("the other one too", x.back(1 - image), STATE);
        }
    }

    private static void anImageOfNoLetters() {
        CHECK.sentence("An IMAGE is kept: LETTERS");
        LetterFabric x = new LetterFabric();
        due("keep(0) of none", x.keep(0), 0);
        x.puts(3, 3, 3);
        x.slot();
        x.tells(2, 2, 2);
        due("back(0)", x.back(0), 0);
        int[] counts = {1, 8, 8, 0, 0, 0, 0, 0, 0, 0, 0, 0};
        for (int what = 0; what < counts.length; what++) {
            due("count(" + what + ")", x.count(what), counts[what]);
        }
        due("letter(0, 0)", x.letter(0, 0), BAD);
    }

    private static void keptAnew() {
        CHECK.sentence("An IMAGE is kept: LETTERS");
        LetterFabric x = new LetterFabric();
        for (int n = 0; n < 8; n++) {
            due("keep(0)", x.keep(0), n);
            x.puts(n, n, 0);
        }
        due("keep(1)", x.keep(1), 8);
        due("the latest of image 0", x.back(0), 7);
        due("line(7)", x.line(7), NONE);
        due("keep(1) of that", x.keep(1), 7);
        x.puts(7, 0, 0);
        due("the latest of image 1", x.back(1), 7);
    }

    // ---- what they hold

    /** Whatever comes behind keep(), back() makes all as it was, but that nothing can be undone. */
    private static void allOfThat() {
        CHECK.sentence("IMAGES 0, 1 keep all that 2 changes, NETS, BACK, ROOM");
        for (Stories.Told told : Stories.all()) {
            for (int i = 0; i <= 1; i++) {
                int image = i;
                Looks.Story kept = told.story().then(x -> x.keep(image));
                List<Looks.Answer> want = Looks.at(kept.then(x -> x.back(image)));
                Looks.Story changed = kept.then(ImagesEdgesTest::changeMuch);
                Looks.alike(CHECK, told.name() + "; keep(" + image + "), .., back(" + image + ")",
                        Looks.at(changed.then(x -> x.back(image))), want);
                Looks.Story twice = changed.then(x -> x.back(image)).then(ImagesEdgesTest::changeMuch);
                Looks.alike(CHECK, told.name() + "; keep(" + image + "), .., back(" + image + ") twice",
                        Looks.at(twice.then(x -> x.back(image))), want);
            }
        }
    }

    private static void changeMuch(LetterFabric x) {
        x.undo();
        x.slot();
        x.tells(2, 5, 20);
        x.tells(3, 1, 3);
        for (int line = 0; line < 8; line++) {
            x.puts(line, line % 2, line % 4);
        }
        x.slot();
        x.slot();
        x.puts(6, 6, 1);
        x.undo();
        x.puts(7, 7, 1);
    }

    private static void anImageHasWhatWasThere() {
        CHECK.sentence("All of that becomes as an IMAGE has it: LETTERS");
        LetterFabric x = Looks.made(Stories::allPlaces);
        x.keep(1);
        x.clear();
        due("IMAGES are gone", x.back(1), STATE);
        x = Looks.made(Stories::allPlaces);
        x.keep(1);
        changeMuch(x);
        due("back(1)", x.back(1), 5);
        int[] counts = {2, 1, 9, 1, 5, 1, 1, 1, 1, 1, 2, 0};
        for (int what = 0; what < counts.length; what++) {
            due("count(" + what + ")", x.count(what), counts[what]);
        }
        due("in the QUEUE", x.queue(6, 0), 1);
        due("no other", x.queue(6, 1), NONE);
        due("TURNED BACK", x.turned(0), 2);
        due("its ROUNDS", x.letter(2, 6), 1);
        due("DROPPED in", x.letter(3, 5), 0);
        due("OUT in", x.letter(0, 5), 0);
        due("at its LINE", x.line(7), 4);
    }

    private static void fullImages() {
        CHECK.sentence("All of that becomes as an IMAGE has it: LETTERS");
        LetterFabric x = new LetterFabric();
        x.keep(0);
        Stories.fullOfLettersAndLines(x);
        due("keep(1) of 64", x.keep(1), 64);
        due("back(0)", x.back(0), 0);
        due("a LETTER is put", x.puts(0, 0, 0), 0);
        due("back(1)", x.back(1), 64);
        due("the LINE has one", x.puts(0, 0, 0), STATE);
        x.slot();
        due("and there are 64", x.puts(0, 0, 0), FULL);
        for (int now = x.count(3); now < 99; now++) {
            x.slot();
        }
        due("keep(0) at the last slot", x.keep(0), 64);
        due("back(1)", x.back(1), 64);
        due("a slot goes by", x.slot(), 8);
        due("back(0)", x.back(0), 64);
        due("NOW", x.count(3), 99);
        due("none goes by", x.slot(), STATE);
    }

    // ---- what they do not hold

    private static void nothingElse() {
        CHECK.sentence("nothing else (nothing can be UNDONE behind back())");
        LetterFabric x = new LetterFabric();
        x.puts(0, 0, 0);
        x.sees(1, 0);
        x.keep(0);
        x.puts(1, 0, 0);
        x.sees(2, 0);
        x.sees(3, 0);
        x.keep(1);
        x.back(0);
        due("SEEN stays as it is", x.count(10), 3);
        x.forget();
        due("the other IMAGE stays", x.back(1), 2);
        due("SEEN is not in it", x.count(10), 0);
        due("all LINES", x.unseen(), 3);
        x.sees(1, 1);
        x.back(0);
        due("SEEN stays", x.count(10), 1);
        due("and is looked at as things are NOW", x.unseen(), 0);
        x.back(1);
        due("and so again", x.unseen(), 3);
    }

    private static void nothingIsUndoneBehindBack() {
        CHECK.sentence("nothing can be UNDONE behind back()");
        for (int changes = 0; changes <= 12; changes++) {
            LetterFabric x = new LetterFabric();
            x.slot();
            x.keep(0);
            for (int i = 0; i < changes; i++) {
                x.slot();
            }
            due("refused", x.back(1), STATE);
            due("as before", x.count(11), Math.min(10, changes + 1));
            due("back(0)", x.back(0), 0);
            due("may be UNDONE", x.count(11), 0);
            due("undo()", x.undo(), STATE);
            due("NOW", x.count(3), 1);
            for (int i = 1; i <= 12; i++) {
                x.slot();
                due("known again", x.count(11), Math.min(10, i));
            }
            for (int left = 9; left >= 0; left--) {
                due("undo()", x.undo(), left);
            }
            due("no more", x.undo(), STATE);
            due("NOW", x.count(3), 3);
        }
    }

    private static void keepTakesNothingAway() {
        CHECK.sentence("An IMAGE is kept");
        for (Stories.Told told : Stories.all()) {
            Looks.Story kept = told.story().then(x -> x.keep(0));
            Looks.alike(CHECK, told.name() + "; keep(0) twice",
                    Looks.at(kept.then(x -> x.keep(0))), Looks.at(kept));
            LetterFabric before = Looks.made(told.story());
            LetterFabric after = Looks.made(kept);
            for (int what = 0; what <= 11; what++) {
                due(told.name() + "; count(" + what + ")", after.count(what), before.count(what));
            }
            due(told.name() + "; undo()", after.undo(), before.undo());
            due(told.name() + "; NOW", after.count(3), before.count(3));
            due(told.name() + "; the IMAGE is not UNDONE", after.back(0), Looks.made(told.story()).count(4));
        }
    }

    // ---- clear

    private static void allIsAsAtFirst() {
        CHECK.sentence("All is as at first (nothing can be UNDONE, nothing SEEN, IMAGES are gone): how many LETTERS ..");
        List<Looks.Answer> atFirst = Looks.at(Stories::nothing);
        List<Looks.Answer> full = Looks.at(Stories::fullOfLetters);
        List<Looks.Answer> allPlaces = Looks.at(Stories::allPlaces);
        for (Stories.Told told : Stories.all()) {
            LetterFabric x = Looks.made(told.story());
            int letters = x.count(4);
            due(told.name() + "; clear()", x.clear(), letters);
            due(told.name() + "; clear() again", x.clear(), 0);
            Looks.Story cleared = told.story().then(LetterFabric::clear);
            Looks.alike(CHECK, told.name() + "; clear()", Looks.at(cleared), atFirst);
            Looks.alike(CHECK, told.name() + "; clear(); 64 letters",
                    Looks.at(cleared.then(Stories::fullOfLetters)), full);
            Looks.alike(CHECK, told.name() + "; clear(); letters at all places",
                    Looks.at(cleared.then(Stories::allPlaces)), allPlaces);
        }
    }

    public static void main(String[] args) {
        twoImages();
        noneWasKept();
        anImageOfNoLetters();
        keptAnew();
        allOfThat();
        anImageHasWhatWasThere();
        fullImages();
        nothingElse();
        nothingIsUndoneBehindBack();
        keepTakesNothingAway();
        allIsAsAtFirst();
        CHECK.end();
    }
}
