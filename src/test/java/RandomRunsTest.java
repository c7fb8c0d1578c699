import java.util.Random;

/** Runs of calls by chance (the same ones each time), up to the 512th, each answer compared with PlainFabric's. */
public final class RandomRunsTest {
    private static final int RUNS = 2000, CALLS = 511;
    private static final int[] ODD = {-1, -2, 99, 64, Integer.MIN_VALUE, Integer.MAX_VALUE, 41, 9, 8, 25};

    private final Check check = new Check();
    private final Random random;
    private final LetterFabric real = new LetterFabric();
    private final PlainFabric plain = new PlainFabric();
    private final int run;
    private int asked;
    /** How this run's letters lie: few addresses make queues, slots by chance make it go on. */
    private final int addresses, slotWeight, putWeight;

    private RandomRunsTest(int run) {
        this.run = run;
        random = new Random(run);
        addresses = 1 + random.nextInt(8);
        slotWeight = 1 + random.nextInt(30);
        putWeight = 10 + random.nextInt(60);
    }

    private int number(int least, int most) {
        if (random.nextInt(60) == 0) {
            return ODD[random.nextInt(ODD.length)];
        }
        return least + random.nextInt(most - least + 1);
    }

    private void due(String call, long got, long want) {
        asked++;
        check.due("run " + run + ": " + call, got, want);
    }

    private void changes() {
        int a = number(0, 7);
        int b = number(0, addresses - 1);
        int c = number(0, 3);
        int chosen = random.nextInt(slotWeight + putWeight + 12);
        if (chosen < slotWeight) {
            due("slot()", real.slot(), plain.slot());
        } else if (chosen < slotWeight + putWeight) {
            due("puts(" + a + ", " + b + ", " + c + ")", real.puts(a, b, c), plain.puts(a, b, c));
        } else if (chosen < slotWeight + putWeight + 5) {
            int nets = number(1, 3);
            int back = number(0, 8);
            int room = random.nextInt(4) == 0 ? 0 : number(0, 24);
            due("tells(" + nets + ", " + back + ", " + room + ")",
                    real.tells(nets, back, room), plain.tells(nets, back, room));
        } else if (chosen < slotWeight + putWeight + 9) {
            due("undo()", real.undo(), plain.undo());
        } else if (chosen < slotWeight + putWeight + 10) {
            int i = number(0, 1);
            due("keep(" + i + ")", real.keep(i), plain.keep(i));
        } else if (chosen < slotWeight + putWeight + 11) {
            int i = number(0, 1);
            due("back(" + i + ")", real.back(i), plain.back(i));
        } else if (random.nextInt(12) == 0) {
            due("clear()", real.clear(), plain.clear());
        }
    }

    private void asks() {
        int n = number(0, 40);
        switch (random.nextInt(7)) {
            case 0 -> due("drain()", real.drain(), plain.drain());
            case 1 -> due("lost(" + n + ")", real.lost(n), plain.lost(n));
            case 2 -> due("fewest(" + n + ")", real.fewest(n), plain.fewest(n));
            case 3 -> {
                int slots = number(1, random.nextBoolean() ? 4 : 40);
                int outs = number(0, 1 + 3 * Math.min(10, Math.abs(slots % 100)));
                due("sees(" + slots + ", " + outs + ")", real.sees(slots, outs), plain.sees(slots, outs));
            }
            case 4 -> due("unseen()", real.unseen(), plain.unseen());
            case 5 -> {
                if (random.nextInt(3) == 0) {
                    due("forget()", real.forget(), plain.forget());
                }
            }
            default -> {
                int x = number(0, 10);
                int l = number(0, 8);
                int what = number(0, 1);
                due("share(" + x + ", " + l + ", " + what + ")", real.share(x, l, what), plain.share(x, l, what));
            }
        }
    }

    private void looks() {
        int k = number(0, 9);
        int n = number(0, Math.min(63, plain.count(4)));
        int what = number(0, 6);
        int place = number(0, 7);
        switch (random.nextInt(7)) {
            case 0, 1 -> due("letter(" + n + ", " + what + ")", real.letter(n, what), plain.letter(n, what));
            case 2 -> due("turned(" + k + ")", real.turned(k), plain.turned(k));
            case 3 -> due("sorted(" + k + ")", real.sorted(k), plain.sorted(k));
            case 4 -> {
                int address = number(0, addresses - 1);
                due("queue(" + address + ", " + k + ")", real.queue(address, k), plain.queue(address, k));
            }
            case 5 -> {
                due("line(" + place + ")", real.line(place), plain.line(place));
                due("straight(" + place + ")", real.straight(place), plain.straight(place));
            }
            default -> {
                int counted = number(0, 11);
                due("count(" + counted + ")", real.count(counted), plain.count(counted));
            }
        }
    }

    private int go() {
        while (asked < CALLS) {
            switch (random.nextInt(8)) {
                case 0, 1, 2, 3 -> changes();
                case 4, 5 -> asks();
                default -> looks();
            }
        }
        return check.wrong();
    }

    public static void main(String[] args) {
        Check all = new Check();
        for (int run = 0; run < RUNS && all.wrong() == 0; run++) {
            all.due("run " + run + ", wrong answers", new RandomRunsTest(run).go(), 0);
        }
        all.end();
    }
}
