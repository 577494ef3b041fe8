import java.util.Random;

/** Long runs of calls, drawn from fixed seeds, on the class and on the model beside each other. */
public final class RandomRunsTest {
    private static final int RUNS = 3000;
    private static final int CALLS = 512;
    private static final Check CHECK = new Check("RandomRunsTest");

    private final Random random;
    private final int seed;
    private final DisputeHalving x = new DisputeHalving();
    private final Model model = new Model();
    private int calls = 0;

    private RandomRunsTest(int seed) {
        this.seed = seed;
        this.random = new Random(seed);
    }

    public static void main(String[] args) {
        for (int seed = 0; seed < RUNS; seed++) {
            new RandomRunsTest(seed).run();
        }
        CHECK.end();
    }

    private void same(String call, long got, long want) {
        calls++;
        CHECK.due("seed " + seed + " call " + calls + " " + call, got, want);
    }

    private void run() {
        int ready = random.nextInt(4);
        for (int i = 0; i < ready; i++) {
            makeBatch();
        }
        // a few calls make several answers each: room is left for them
        while (calls < CALLS - 40) {
            anyCall();
        }
    }

    private void anyCall() {
        int kind = random.nextInt(100);
        if (kind < 4) {
            makeBatch();
        } else if (kind < 12) {
            claim();
        } else if (kind < 22) {
            dispute();
        } else if (kind < 50) {
            answer();
        } else if (kind < 56) {
            tick();
        } else if (kind < 64) {
            writePaper();
        } else if (kind < 90) {
            look();
        } else if (kind < 99) {
            wildCall();
        } else if (random.nextInt(4) == 0) {
            same("clear", x.clear(), model.clear());
        }
    }

    private int upTo(int most) {
        return random.nextInt(most + 3) - 1;
    }

    private int anyInt() {
        int kind = random.nextInt(6);
        if (kind == 0) {
            return random.nextInt();
        }
        return kind == 1 ? Integer.MIN_VALUE + random.nextInt(2) * -1 : random.nextInt(40) - 8;
    }

    private void makeBatch() {
        int length = 1 + random.nextInt(6);
        for (int i = 0; i < length; i++) {
            int op = random.nextInt(10);
            int a = random.nextInt(random.nextBoolean() ? 4 : 16);
            int b = random.nextInt(random.nextBoolean() ? 4 : 16);
            int c = op == 9 ? random.nextInt(length + 2) - 1 : anyInt();
            same("instruction", x.instruction(op, a, b, c), model.instruction(op, a, b, c));
        }
        int r = random.nextInt(20) == 0 ? random.nextInt(13) - 1 : random.nextInt(5);
        int c0 = anyInt();
        int c1 = anyInt();
        same("batch", x.batch(c0, c1, 5, -3, r), model.batch(c0, c1, 5, -3, r));
    }

    private void claim() {
        int player = upTo(7);
        int batch = random.nextInt(3);
        long digest = random.nextBoolean() ? model.truth(batch, lastStep(batch)) : random.nextInt(3);
        same("claim", x.claim(player, batch, digest), model.claim(player, batch, digest));
    }

    private int lastStep(int batch) {
        int s = 0;
        while (model.truth(batch, s + 1) != 0) {
            s++;
        }
        return s;
    }

    private void dispute() {
        int player = upTo(7);
        int claim = random.nextInt(8);
        same("dispute", x.dispute(player, claim), model.dispute(player, claim));
    }

    private void answer() {
        int dispute = random.nextInt(12);
        int batch = model.ofClaim(model.ofDispute(dispute, 1), 1);
        int turn = model.ofDispute(dispute, 5);
        same("turn", x.ofDispute(dispute, 5), turn);
        if (turn == 0) {
            int middle = (model.ofDispute(dispute, 3) + model.ofDispute(dispute, 4)) / 2;
            long digest = random.nextInt(3) == 0 ? random.nextInt(3) : model.truth(batch, middle);
            same("tell", x.tell(dispute, digest), model.tell(dispute, digest));
        } else if (turn == 1) {
            int other = random.nextInt(2);
            same("choose", x.choose(dispute, other), model.choose(dispute, other));
        } else if (turn == 2) {
            if (random.nextInt(4) != 0) {
                int low = model.ofDispute(dispute, 3);
                same("write", x.write(batch, low), model.write(batch, low));
            }
            same("prove", x.prove(dispute), model.prove(dispute));
        }
    }

    private void tick() {
        int n = random.nextInt(10) == 0 ? random.nextInt(204) - 1 : random.nextInt(12);
        same("tick " + n, x.tick(n), model.tick(n));
    }

    /** A PAPER by hand: right but for one thing now and then, and judged. */
    private void writePaper() {
        int batch = random.nextInt(3);
        int s = random.nextInt(4);
        int[] cells = new int[16];
        for (int k = 0; k < 16; k++) {
            cells[k] = model.state(batch, s, k);
        }
        int place = model.state(batch, s, 16) + (random.nextInt(12) == 0 ? 1 : 0);
        long root = Trees.node(cells, 1) + (random.nextInt(12) == 0 ? 1 : 0);
        same("paper", x.paper(place, root), model.paper(place, root));
        int shown = random.nextInt(6);
        for (int i = 0; i < shown; i++) {
            showCell(cells);
        }
        long low = Trees.mix(root, place) + (random.nextInt(12) == 0 ? 1 : 0);
        long high = model.truth(batch, s + 1);
        same("judge", x.judge(batch, low, high), model.judge(batch, low, high));
    }

    private void showCell(int[] cells) {
        int k = random.nextInt(random.nextBoolean() ? 4 : 16);
        int spoilt = random.nextInt(60);
        long[] beside = new long[4];
        for (int level = 0; level < 4; level++) {
            beside[level] = Trees.beside(cells, k, level) + (spoilt == level ? 1 : 0);
        }
        int value = cells[k] + (spoilt == 4 ? 1 : 0);
        same("cell", x.cell(k, value, beside[0], beside[1], beside[2], beside[3]),
                model.cell(k, value, beside[0], beside[1], beside[2], beside[3]));
    }

    private void look() {
        int number = random.nextInt(12);
        int what = upTo(17);
        int s = upTo(20);
        switch (random.nextInt(8)) {
            case 0 -> same("ofClaim", x.ofClaim(number, what % 6), model.ofClaim(number, what % 6));
            case 1 -> same("ofDispute", x.ofDispute(number, what % 10), model.ofDispute(number, what % 10));
            case 2 -> same("digest", x.digest(number, what % 4), model.digest(number, what % 4));
            case 3 -> same("purse", x.purse(number - 1), model.purse(number - 1));
            case 4 -> same("sum", x.sum(), model.sum());
            case 5 -> same("truth", x.truth(number % 4, s), model.truth(number % 4, s));
            case 6 -> same("state", x.state(number % 4, s, what), model.state(number % 4, s, what));
            default -> same("node", x.node(number % 4, s, what * 2), model.node(number % 4, s, what * 2));
        }
    }

    private void wildCall() {
        int p = anyInt();
        int q = anyInt();
        long digest = random.nextLong();
        switch (random.nextInt(12)) {
            case 0 -> same("instruction", x.instruction(p, q, 0, p), model.instruction(p, q, 0, p));
            case 1 -> same("batch", x.batch(p, q, p, q, p), model.batch(p, q, p, q, p));
            case 2 -> same("claim", x.claim(p, q, digest), model.claim(p, q, digest));
            case 3 -> same("dispute", x.dispute(p, q), model.dispute(p, q));
            case 4 -> same("tell", x.tell(p, digest), model.tell(p, digest));
            case 5 -> same("choose", x.choose(p, q), model.choose(p, q));
            case 6 -> same("cell", x.cell(p, q, 1, 2, 3, digest), model.cell(p, q, 1, 2, 3, digest));
            case 7 -> same("prove", x.prove(p), model.prove(p));
            case 8 -> same("judge", x.judge(p, q, digest), model.judge(p, q, digest));
            case 9 -> same("write", x.write(p, q), model.write(p, q));
            case 10 -> same("tick", x.tick(p), model.tick(p));
            default -> same("state", x.state(p, q, q), model.state(p, q, q));
        }
    }
}
