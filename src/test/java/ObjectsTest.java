import java.util.Random;

/** Each object is for itself: what one answers does not depend on what is called on others, before or in between. */
public final class ObjectsTest {
    private static final int OBJECTS = 12, CALLS = 512;
    private static final Check CHECK = new Check();

    private ObjectsTest() {}

    /** One call by chance; which one it is does not depend on what was answered. */
    private static long changes(LetterFabric x, Random chance) {
        int a = chance.nextInt(8);
        int b = chance.nextInt(3);
        int c = chance.nextInt(4);
        switch (chance.nextInt(20)) {
            case 0: return x.tells(1 + b, a, 6 * c);
            case 1: return x.undo();
            case 2: return x.keep(a % 2);
            case 3: return x.back(a % 2);
            case 4: return x.sees(1 + b, a);
            case 5: return c == 0 ? x.forget() : x.unseen();
            case 6: return a == 0 ? x.clear() : x.count(a);
            case 7, 8, 9, 10: return x.slot();
            default: return x.puts(a, b, c);
        }
    }

    private static long asks(LetterFabric x, Random chance) {
        int a = chance.nextInt(8);
        int n = chance.nextInt(40);
        switch (chance.nextInt(12)) {
            case 0: return x.line(a);
            case 1: return x.queue(a % 3, n % 6);
            case 2: return x.turned(n % 8);
            case 3: return x.sorted(n % 16);
            case 4: return x.straight(a);
            case 5: return x.drain();
            case 6: return x.lost(n);
            case 7: return x.fewest(n);
            case 8: return x.share(n % 11, a, a % 2);
            case 9: return x.unseen();
            case 10: return x.count(n % 12);
            default: return x.letter(n, a % 7);
        }
    }

    private static long call(LetterFabric x, Random chance) {
        return chance.nextInt(3) > 0 ? changes(x, chance) : asks(x, chance);
    }

    private static long[] alone(int run) {
        LetterFabric x = new LetterFabric();
        Random chance = new Random(run);
        long[] answers = new long[CALLS];
        for (int i = 0; i < CALLS; i++) {
            answers[i] = call(x, chance);
        }
        return answers;
    }

    private static void eachForItself() {
        CHECK.sentence("LetterFabric(): No LETTERS");
        long[][] due = new long[OBJECTS][];
        LetterFabric[] objects = new LetterFabric[OBJECTS];
        Random[] chances = new Random[OBJECTS];
        for (int run = 0; run < OBJECTS; run++) {
            due[run] = alone(run);
            objects[run] = new LetterFabric();
            chances[run] = new Random(run);
        }
        for (int i = 0; i < CALLS; i++) {
            for (int run = 0; run < OBJECTS; run++) {
                CHECK.due("object " + run + ", call " + i, call(objects[run], chances[run]), due[run][i]);
            }
        }
    }

    /** The same calls give the same answers, whatever has been called on other objects since. */
    private static void alwaysTheSame() {
        CHECK.sentence("the same calls always give the same answers");
        for (int run = 0; run < OBJECTS; run++) {
            long[] first = alone(run);
            alone(run + 1);
            long[] again = alone(run);
            for (int i = 0; i < CALLS; i++) {
                CHECK.due("run " + run + ", call " + i, again[i], first[i]);
            }
        }
    }

    public static void main(String[] args) {
        eachForItself();
        alwaysTheSame();
        CHECK.end();
    }
}
