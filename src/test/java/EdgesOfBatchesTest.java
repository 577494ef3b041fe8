/** The boundary cases that promises 1 to 6 name: a new object, instruction, batch, truth, state, node. */
public final class EdgesOfBatchesTest {
    private static final int NONE = DisputeHalving.NONE;
    private static final int MIN = Integer.MIN_VALUE;
    private static final int MAX = Integer.MAX_VALUE;
    private static final Check CHECK = new Check("EdgesOfBatchesTest");
    private static final Stays STAYS = new Stays(CHECK);

    public static void main(String[] args) {
        newHasNoBatch();
        newHasNoClaim();
        newHasFullPurses();
        newHasTimeZero();
        newHasAnEmptyDraft();
        newHasAnEmptyPaper();
        instructionOp();
        instructionA();
        instructionB();
        instructionTakesEveryC();
        instructionTwentyFour();
        batchWithoutInstruction();
        batchPower();
        batchEight();
        batchEmptiesTheDraft();
        batchTakesEveryFirstCell();
        truthBatch();
        truthStep();
        stateBatch();
        stateStep();
        stateWhat();
        stateStepsDone();
        nodeBatch();
        nodeStep();
        nodeNumber();
        CHECK.end();
    }

    /** Promise 1: "No BATCHES". */
    private static void newHasNoBatch() {
        STAYS.behind("new: no batch, 0", DisputeHalving::new, 0,
                x -> x.truth(0, 0), x -> x.state(0, 0, 16), x -> x.node(0, 0, 1));
        STAYS.behind("new: no batch, NONE", DisputeHalving::new, NONE,
                x -> x.claim(0, 0, 0), x -> x.judge(0, 0, 0), x -> x.write(0, 0));
        CHECK.due("new: the first batch", Scenes.adder(new DisputeHalving(), 0), 0);
    }

    /** Promise 1: "No BATCHES, CLAIMS". */
    private static void newHasNoClaim() {
        STAYS.behind("new: no claim", DisputeHalving::new, NONE,
                x -> x.ofClaim(0, 0), x -> x.dispute(0, 0), x -> x.ofDispute(0, 0), x -> x.tell(0, 0),
                x -> x.choose(0, 0), x -> x.prove(0));
        STAYS.behind("new: no dispute's digest", DisputeHalving::new, 0, x -> x.digest(0, 0));
        CHECK.due("new: claims that were there", new DisputeHalving().clear(), 0);
    }

    /** Promise 1: "PURSES 1000". */
    private static void newHasFullPurses() {
        DisputeHalving x = new DisputeHalving();
        for (int player = 0; player < 8; player++) {
            CHECK.due("new: purse " + player, x.purse(player), 1000);
        }
        CHECK.due("new: sum", x.sum(), 8000);
    }

    /** Promise 1: "time 0". */
    private static void newHasTimeZero() {
        CHECK.due("new: time", new DisputeHalving().tick(0), 0);
        CHECK.due("new: time behind a tick", new DisputeHalving().tick(1), 1);
    }

    /** Promise 1: "an empty DRAFT". */
    private static void newHasAnEmptyDraft() {
        STAYS.behind("new: an empty draft", DisputeHalving::new, NONE, x -> x.batch(1, 2, 3, 4, 0));
        CHECK.due("new: instruction", new DisputeHalving().instruction(0, 0, 0, 0), 1);
    }

    /** Promise 1: "an empty .. PAPER": each CELL has room, and four of them. */
    private static void newHasAnEmptyPaper() {
        for (int k = 0; k < 16; k++) {
            CHECK.due("new: cell " + k, new DisputeHalving().cell(k, 0, 0, 0, 0, 0), 1);
        }
        DisputeHalving x = new DisputeHalving();
        for (int k = 0; k < 4; k++) {
            CHECK.due("new: cell of four", x.cell(k, 0, 0, 0, 0, 0), k + 1);
        }
    }

    /** Promise 2: "NONE: op not 0 .. 9". */
    private static void instructionOp() {
        STAYS.behind("op not 0 .. 9", Scenes::busy, NONE,
                x -> x.instruction(-1, 0, 0, 0), x -> x.instruction(10, 0, 0, 0),
                x -> x.instruction(MIN, 0, 0, 0), x -> x.instruction(MAX, 0, 0, 0));
        DisputeHalving x = new DisputeHalving();
        for (int op = 0; op <= 9; op++) {
            CHECK.due("op " + op, x.instruction(op, 0, 0, 0), op + 1);
        }
    }

    /** Promise 2: "NONE: .. a .. not 0 .. 15", whatever the op. */
    private static void instructionA() {
        for (int op = 0; op <= 9; op++) {
            int with = op;
            STAYS.behind("a not 0 .. 15, op " + op, Scenes::busy, NONE,
                    x -> x.instruction(with, -1, 0, 0), x -> x.instruction(with, 16, 0, 0),
                    x -> x.instruction(with, MIN, 0, 0), x -> x.instruction(with, MAX, 0, 0));
            DisputeHalving x = new DisputeHalving();
            CHECK.due("a 0, op " + op, x.instruction(op, 0, 1, 0), 1);
            CHECK.due("a 15, op " + op, x.instruction(op, 15, 1, 0), 2);
        }
    }

    /** Promise 2: "NONE: .. b not 0 .. 15", even where the op does not ask for B. */
    private static void instructionB() {
        for (int op = 0; op <= 9; op++) {
            int with = op;
            STAYS.behind("b not 0 .. 15, op " + op, Scenes::busy, NONE,
                    x -> x.instruction(with, 0, -1, 0), x -> x.instruction(with, 0, 16, 0),
                    x -> x.instruction(with, 0, MIN, 0), x -> x.instruction(with, 0, MAX, 0));
            DisputeHalving x = new DisputeHalving();
            CHECK.due("b 0, op " + op, x.instruction(op, 1, 0, 0), 1);
            CHECK.due("b 15, op " + op, x.instruction(op, 1, 15, 0), 2);
        }
    }

    /** Promise 2 refuses no c. */
    private static void instructionTakesEveryC() {
        DisputeHalving x = new DisputeHalving();
        int[] every = {MIN, -1, 0, MAX};
        for (int i = 0; i < every.length; i++) {
            CHECK.due("c " + every[i], x.instruction(0, i, 0, every[i]), i + 1);
        }
        x.batch(5, 5, 5, 5, 2);
        for (int i = 0; i < every.length; i++) {
            CHECK.due("cell that is c " + every[i], x.state(0, 4, i), every[i]);
        }
    }

    /** INSTRUCTION i of these many adds 1 to CELL 1: all of them are counted there. */
    private static DisputeHalving draftOf(int many) {
        DisputeHalving x = new DisputeHalving();
        for (int i = 0; i < many; i++) {
            CHECK.due("instruction " + i, x.instruction(1, 1, 0, 0), i + 1);
        }
        return x;
    }

    /** Promise 2: "NONE: .. there are 24". */
    private static void instructionTwentyFour() {
        STAYS.behind("there are 24", () -> draftOf(24), NONE,
                x -> x.instruction(1, 1, 0, 0), x -> x.instruction(0, 0, 0, 0), x -> x.instruction(9, 15, 15, 0));
        DisputeHalving x = draftOf(24);
        x.instruction(0, 1, 0, 99);
        CHECK.due("batch of 24", x.batch(1, 0, 0, 0, 5), 0);
        CHECK.due("24 are done", x.state(0, 32, 1), 24);
        CHECK.due("23 before", x.state(0, 23, 1), 23);
        CHECK.due("place behind them", x.state(0, 32, 16), 24);
        CHECK.due("the next draft has room again", x.instruction(0, 0, 0, 0), 1);
    }

    /** Promise 3: "NONE: no INSTRUCTION". */
    private static void batchWithoutInstruction() {
        STAYS.behind("no instruction behind a batch", () -> Scenes.withAdder(1), NONE,
                x -> x.batch(0, 0, 0, 0, 0), x -> x.batch(1, 2, 3, 4, 10));
        DisputeHalving x = draftOf(1);
        CHECK.due("one instruction", x.batch(0, 0, 0, 0, 0), 0);
        CHECK.due("none left", x.batch(0, 0, 0, 0, 0), NONE);
    }

    /** Promise 3: "NONE: .. r not 0 .. 10"; N is 2 to the power of r. */
    private static void batchPower() {
        STAYS.behind("r not 0 .. 10", Scenes::busy, NONE,
                x -> x.batch(1, 2, 3, 4, -1), x -> x.batch(1, 2, 3, 4, 11), x -> x.batch(1, 2, 3, 4, 32),
                x -> x.batch(1, 2, 3, 4, MIN), x -> x.batch(1, 2, 3, 4, MAX));
        int steps = 1;
        for (int r = 0; r <= 10; r++) {
            DisputeHalving x = new DisputeHalving();
            CHECK.due("r " + r, Scenes.adder(x, r), 0);
            CHECK.due("all steps, r " + r, x.state(0, steps, 17), steps);
            CHECK.due("one more, r " + r, x.state(0, steps + 1, 17), 0);
            CHECK.due("one more has no digest, r " + r, x.truth(0, steps + 1), 0);
            steps = steps * 2;
        }
    }

    /** BATCHES with 3 times their number in CELL 0, and a DRAFT of one behind them. */
    private static DisputeHalving batches(int many) {
        DisputeHalving x = new DisputeHalving();
        for (int i = 0; i < many; i++) {
            x.instruction(9, 1, 1, 0);
            CHECK.due("batch " + i, x.batch(3 * i, 1, 0, 0, 1), i);
        }
        x.instruction(0, 7, 0, 9);
        return x;
    }

    /** Promise 3: "NONE: .. there are 8". */
    private static void batchEight() {
        STAYS.behind("there are 8", () -> batches(8), NONE,
                x -> x.batch(0, 0, 0, 0, 0), x -> x.batch(1, 2, 3, 4, 10));
        CHECK.due("the eighth", batches(7).batch(0, 0, 0, 0, 0), 7);
        DisputeHalving x = batches(8);
        x.batch(1, 1, 1, 1, 1);
        CHECK.due("the draft stays", x.instruction(0, 7, 0, 9), 2);
        for (int i = 0; i < 8; i++) {
            CHECK.due("batch " + i + " stays", x.state(i, 2, 0), 3 * i);
        }
    }

    /** Promise 3: "and is empty then"; the BATCH keeps its PROGRAM. */
    private static void batchEmptiesTheDraft() {
        DisputeHalving x = draftOf(3);
        x.batch(1, 0, 0, 0, 3);
        CHECK.due("the draft is empty", x.batch(1, 0, 0, 0, 3), NONE);
        CHECK.due("its first one", x.instruction(0, 1, 0, 55), 1);
        CHECK.due("the batch has its three", x.state(0, 8, 1), 3);
        CHECK.due("the next batch", x.batch(1, 0, 0, 0, 3), 1);
        CHECK.due("has its one", x.state(1, 8, 17), 1);
        CHECK.due("the older has its three", x.state(0, 8, 17), 3);
    }

    /** Promise 3: CELLS 0 .. 3 are ints, and all others 0 at first. */
    private static void batchTakesEveryFirstCell() {
        DisputeHalving x = draftOf(1);
        x.batch(MIN, MAX, -1, 1, 0);
        int[] first = {MIN, MAX, -1, 1};
        for (int k = 0; k < 16; k++) {
            CHECK.due("cell " + k + " at first", x.state(0, 0, k), k < 4 ? first[k] : 0);
        }
        CHECK.due("place at first", x.state(0, 0, 16), 0);
    }

    /** Promise 4: "0: none such", of a BATCH: 7 is the last. */
    private static void truthBatch() {
        STAYS.behind("truth: no such batch", () -> batches(7), 0,
                x -> x.truth(-1, 0), x -> x.truth(7, 0), x -> x.truth(MIN, 0), x -> x.truth(MAX, 0));
        STAYS.behind("truth: no batch 8", () -> batches(8), 0, x -> x.truth(8, 0), x -> x.truth(-1, 0));
        CHECK.holds("truth of batch 0", batches(8).truth(0, 0) != 0);
        CHECK.holds("truth of batch 7", batches(8).truth(7, 0) != 0);
    }

    /** Promise 4: "behind s STEPS (0 .. N)". */
    private static void truthStep() {
        STAYS.behind("truth: no such step of 4", Scenes::busy, 0,
                x -> x.truth(0, -1), x -> x.truth(0, 5), x -> x.truth(0, MIN), x -> x.truth(0, MAX));
        STAYS.behind("truth: no such step of 1", Scenes::busy, 0, x -> x.truth(1, -1), x -> x.truth(1, 2));
        DisputeHalving x = Scenes.withAdder(10);
        CHECK.due("truth behind 0", x.truth(0, 0), Trees.digest(adderCells(0), 0));
        CHECK.due("truth behind 1023", x.truth(0, 1023), Trees.digest(adderCells(512), 1));
        CHECK.due("truth behind 1024", x.truth(0, 1024), Trees.digest(adderCells(512), 0));
        CHECK.due("truth behind 1025", x.truth(0, 1025), 0);
    }

    private static int[] adderCells(int times) {
        int[] cells = new int[16];
        cells[0] = 3 * times;
        cells[1] = 3;
        return cells;
    }

    /** Promise 5: "0: none such", of a BATCH. */
    private static void stateBatch() {
        STAYS.behind("state: no such batch", () -> batches(7), 0,
                x -> x.state(-1, 0, 1), x -> x.state(7, 0, 1), x -> x.state(MIN, 0, 1), x -> x.state(MAX, 0, 1));
        STAYS.behind("state: no batch 8", () -> batches(8), 0, x -> x.state(8, 0, 1), x -> x.state(-1, 0, 1));
        CHECK.due("state of batch 0", batches(8).state(0, 0, 1), 1);
        CHECK.due("state of batch 7", batches(8).state(7, 0, 0), 21);
    }

    /** Promise 5: "Of that STATE", behind 0 .. N STEPS. */
    private static void stateStep() {
        STAYS.behind("state: no such step", Scenes::busy, 0,
                x -> x.state(0, -1, 1), x -> x.state(0, 5, 1), x -> x.state(0, MIN, 1), x -> x.state(0, MAX, 1),
                x -> x.state(1, 2, 1), x -> x.state(1, 2, 17));
        DisputeHalving x = Scenes.busy();
        CHECK.due("state behind 0", x.state(0, 0, 1), 3);
        CHECK.due("state behind 4", x.state(0, 4, 0), 6);
        CHECK.due("state behind the one step", x.state(1, 1, 0), 3);
    }

    /** Promise 5: "what = 0 .. 15 a CELL, 16 PLACE; 17 ..". */
    private static void stateWhat() {
        STAYS.behind("state: no such what", Scenes::busy, 0,
                x -> x.state(0, 4, -1), x -> x.state(0, 4, 18), x -> x.state(0, 4, MIN), x -> x.state(0, 4, MAX));
        DisputeHalving x = new DisputeHalving();
        x.instruction(0, 15, 0, 115);
        x.instruction(0, 14, 0, 114);
        x.batch(100, 0, 0, 0, 2);
        CHECK.due("what 0", x.state(0, 4, 0), 100);
        CHECK.due("what 14", x.state(0, 4, 14), 114);
        CHECK.due("what 15", x.state(0, 4, 15), 115);
        CHECK.due("what 16", x.state(0, 1, 16), 1);
        CHECK.due("what 17", x.state(0, 3, 17), 2);
    }

    /** Promise 5: "17 how many STEPS of those before did one that is there". */
    private static void stateStepsDone() {
        DisputeHalving x = draftOf(3);
        x.batch(1, 0, 0, 0, 3);
        int[] done = {0, 1, 2, 3, 3, 3, 3, 3, 3};
        for (int s = 0; s <= 8; s++) {
            CHECK.due("done before " + s, x.state(0, s, 17), done[s]);
        }
        x.instruction(9, 0, 0, -1);
        x.batch(1, 0, 0, 0, 3);
        CHECK.due("none before", x.state(1, 0, 17), 0);
        CHECK.due("one that goes below", x.state(1, 1, 17), 1);
        CHECK.due("none below", x.state(1, 8, 17), 1);
        Scenes.adder(x, 10);
        CHECK.due("all of 1024", x.state(2, 1024, 17), 1024);
    }

    /** Promise 6: "0: none such", of a BATCH. */
    private static void nodeBatch() {
        STAYS.behind("node: no such batch", () -> batches(7), 0,
                x -> x.node(-1, 0, 1), x -> x.node(7, 0, 1), x -> x.node(MIN, 0, 1), x -> x.node(MAX, 0, 1));
        STAYS.behind("node: no batch 8", () -> batches(8), 0, x -> x.node(8, 0, 1), x -> x.node(-1, 0, 1));
        CHECK.due("node of batch 0", batches(8).node(0, 0, 17), Trees.mix(1, 1));
        CHECK.due("node of batch 7", batches(8).node(7, 0, 17), Trees.mix(1, 1));
    }

    /** Promise 6: "of that STATE's TREE", behind 0 .. N STEPS. */
    private static void nodeStep() {
        STAYS.behind("node: no such step", Scenes::busy, 0,
                x -> x.node(0, -1, 1), x -> x.node(0, 5, 1), x -> x.node(0, MIN, 1), x -> x.node(0, MAX, 1),
                x -> x.node(1, 2, 31));
        DisputeHalving x = Scenes.busy();
        CHECK.due("node behind 0", x.node(0, 0, 1), Trees.node(adderCells(0), 1));
        CHECK.due("node behind 4", x.node(0, 4, 1), Trees.node(adderCells(2), 1));
    }

    /** Promise 6: "NODE i (1 .. 31)". */
    private static void nodeNumber() {
        STAYS.behind("node: no such node", Scenes::busy, 0,
                x -> x.node(0, 4, 0), x -> x.node(0, 4, 32), x -> x.node(0, 4, -1), x -> x.node(0, 4, MIN),
                x -> x.node(0, 4, MAX));
        DisputeHalving x = Scenes.busy();
        for (int i = 1; i <= 31; i++) {
            long want = Trees.node(adderCells(2), i);
            CHECK.due("node " + i, x.node(0, 4, i), want);
            CHECK.holds("node " + i + " is not 0", want != 0 || i == 16);
        }
    }
}
