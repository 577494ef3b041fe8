/** Promises 1 to 6: a new object, instruction, batch, truth, state, node. */
public final class MachineTest {
    private static final int NONE = DisputeHalving.NONE;
    private static final Check CHECK = new Check("MachineTest");

    public static void main(String[] args) {
        newObject();
        instructionLimits();
        batchLimits();
        draftAfterBatch();
        arithmetic();
        fetchAndStore();
        sameCellTwice();
        jumps();
        outsideTheProgram();
        stateLimits();
        treeOfEachState();
        CHECK.end();
    }

    private static void newObject() {
        DisputeHalving x = new DisputeHalving();
        CHECK.due("new: batch", x.batch(0, 0, 0, 0, 0), NONE);
        CHECK.due("new: truth", x.truth(0, 0), 0);
        CHECK.due("new: claim", x.claim(0, 0, 1), NONE);
        CHECK.due("new: ofClaim", x.ofClaim(0, 0), NONE);
        CHECK.due("new: ofDispute", x.ofDispute(0, 0), NONE);
        CHECK.due("new: judge", x.judge(0, 0, 0), NONE);
        for (int player = 0; player < 8; player++) {
            CHECK.due("new: purse " + player, x.purse(player), 1000);
        }
        CHECK.due("new: sum", x.sum(), 8000);
        CHECK.due("new: time", x.tick(0), 0);
        CHECK.due("new: cells on the paper", x.cell(0, 0, 0, 0, 0, 0), 1);
        CHECK.due("new: draft", x.instruction(0, 0, 0, 0), 1);
    }

    private static void instructionLimits() {
        DisputeHalving x = new DisputeHalving();
        int[] wrongCells = {-1, 16, Integer.MIN_VALUE, Integer.MAX_VALUE};
        for (int wrong : wrongCells) {
            CHECK.due("instruction a " + wrong, x.instruction(1, wrong, 0, 0), NONE);
            CHECK.due("instruction b " + wrong, x.instruction(1, 0, wrong, 0), NONE);
            // b is looked at even where the op does not ask for it
            CHECK.due("instruction b unused " + wrong, x.instruction(0, 0, wrong, 0), NONE);
        }
        int[] wrongOps = {-1, 10, Integer.MIN_VALUE, Integer.MAX_VALUE};
        for (int wrong : wrongOps) {
            CHECK.due("instruction op " + wrong, x.instruction(wrong, 0, 0, 0), NONE);
        }
        for (int i = 0; i < 24; i++) {
            CHECK.due("instruction " + i, x.instruction(i % 10, 15 - i % 16, i % 16, Integer.MIN_VALUE), i + 1);
        }
        CHECK.due("instruction 25", x.instruction(0, 0, 0, 0), NONE);
        CHECK.due("batch of 24", x.batch(0, 0, 0, 0, 0), 0);
    }

    private static void batchLimits() {
        DisputeHalving x = new DisputeHalving();
        for (int i = 0; i < 8; i++) {
            CHECK.due("batch without instruction", x.batch(0, 0, 0, 0, 0), NONE);
            x.instruction(0, 0, 0, i);
            CHECK.due("batch r -1", x.batch(0, 0, 0, 0, -1), NONE);
            CHECK.due("batch r 11", x.batch(0, 0, 0, 0, 11), NONE);
            CHECK.due("batch " + i, x.batch(0, 0, 0, 0, i == 7 ? 10 : i), i);
        }
        x.instruction(0, 0, 0, 0);
        CHECK.due("batch 9", x.batch(0, 0, 0, 0, 0), NONE);
        for (int i = 0; i < 8; i++) {
            int steps = 1 << (i == 7 ? 10 : i);
            CHECK.due("last of " + i, x.state(i, steps, 17), 1);
            CHECK.due("cell of " + i, x.state(i, steps, 0), i);
            CHECK.due("behind the last of " + i, x.truth(i, steps + 1), 0);
        }
    }

    private static void draftAfterBatch() {
        DisputeHalving x = new DisputeHalving();
        x.instruction(0, 5, 0, 11);
        x.instruction(0, 6, 0, 12);
        CHECK.due("refused batch", x.batch(1, 2, 3, 4, 11), NONE);
        CHECK.due("draft stays", x.instruction(0, 7, 0, 13), 3);
        CHECK.due("batch", x.batch(1, 2, 3, 4, 2), 0);
        CHECK.due("draft is empty", x.instruction(0, 5, 0, 99), 1);
        CHECK.due("older batch stays", x.state(0, 4, 5), 11);
        for (int k = 0; k < 16; k++) {
            CHECK.due("first cell " + k, x.state(0, 0, k), k < 4 ? k + 1 : 0);
        }
    }

    /** Cell 0 behind one STEP of an INSTRUCTION on cells 0 and 1. */
    private static int behindOne(int op, int valueA, int valueB, int c) {
        DisputeHalving x = new DisputeHalving();
        x.instruction(op, 0, 1, c);
        x.batch(valueA, valueB, 0, 0, 0);
        CHECK.due("place behind op " + op, x.state(0, 1, 16), 1);
        CHECK.due("b behind op " + op, x.state(0, 1, 1), valueB);
        return x.state(0, 1, 0);
    }

    private static void arithmetic() {
        int min = Integer.MIN_VALUE;
        int max = Integer.MAX_VALUE;
        CHECK.due("set", behindOne(0, 5, 6, min), min);
        CHECK.due("add", behindOne(1, 5, -8, 77), -3);
        CHECK.due("add runs over", behindOne(1, max, 1, 0), min);
        CHECK.due("subtract", behindOne(2, 5, 8, 77), -3);
        CHECK.due("subtract runs over", behindOne(2, min, 1, 0), max);
        CHECK.due("multiply", behindOne(3, -5, 8, 77), -40);
        CHECK.due("multiply runs over", behindOne(3, 65537, 65537, 0), 131073);
        CHECK.due("xor", behindOne(4, 12, -1, 77), -13);
        CHECK.due("turn by 3", behindOne(5, 0x60000001, 0, 3), 11);
        CHECK.due("turn by 35", behindOne(5, 0x60000001, 0, 35), 11);
        CHECK.due("turn by -1", behindOne(5, 3, 0, -1), 0x80000001);
        CHECK.due("turn by 32", behindOne(5, -7, 0, 32), -7);
        CHECK.due("turn by 0", behindOne(5, -7, 0, 0), -7);
        CHECK.due("turn of the sign", behindOne(5, min, 0, 1), 1);
        CHECK.due("less", behindOne(6, -1, 0, 0), 1);
        CHECK.due("less, far apart", behindOne(6, min, max, 0), 1);
        CHECK.due("not less", behindOne(6, 3, 3, 0), 0);
        CHECK.due("greater", behindOne(6, max, min, 0), 0);
    }

    private static void fetchAndStore() {
        DisputeHalving x = new DisputeHalving();
        x.instruction(7, 0, 1, 0);
        x.batch(5, -14, 77, 0, 0);
        CHECK.due("fetch by the lowest 4 bits of B", x.state(0, 1, 0), 77);
        CHECK.due("fetch leaves B", x.state(0, 1, 1), -14);
        x.instruction(8, 0, 1, 0);
        x.batch(-1, 42, 0, 0, 0);
        CHECK.due("store by the lowest 4 bits of A", x.state(1, 1, 15), 42);
        CHECK.due("store leaves A", x.state(1, 1, 0), -1);
        CHECK.due("store goes on", x.state(1, 1, 16), 1);
    }

    private static void sameCellTwice() {
        DisputeHalving x = new DisputeHalving();
        for (int op = 1; op <= 8; op++) {
            x.instruction(op, 2, 2, 4);
            x.batch(0, 0, 3, 9, 0);
        }
        int[] want = {6, 0, 9, 0, 48, 0, 9, 3};
        for (int op = 1; op <= 7; op++) {
            CHECK.due("op " + op + " on one cell", x.state(op - 1, 1, 2), want[op - 1]);
        }
        CHECK.due("op 8 on one cell", x.state(7, 1, 3), want[7]);
        CHECK.due("op 8 on one cell leaves it", x.state(7, 1, 2), 3);
    }

    private static void jumps() {
        DisputeHalving x = new DisputeHalving();
        x.instruction(9, 0, 1, -5);
        x.instruction(9, 1, 0, 0);
        x.batch(0, 7, 0, 0, 3);
        CHECK.due("not taken", x.state(0, 1, 16), 1);
        CHECK.due("taken", x.state(0, 2, 16), 0);
        CHECK.due("all done", x.state(0, 8, 17), 8);
        CHECK.due("nothing written", x.state(0, 8, 0), 0);
        CHECK.due("nothing written", x.state(0, 8, 1), 7);
        x.instruction(9, 0, 0, Integer.MIN_VALUE);
        x.batch(-1, 0, 0, 0, 3);
        CHECK.due("below", x.state(1, 1, 16), Integer.MIN_VALUE);
        CHECK.due("stays below", x.state(1, 8, 16), Integer.MIN_VALUE);
        CHECK.due("one done", x.state(1, 8, 17), 1);
        x.instruction(9, 0, 0, Integer.MAX_VALUE);
        x.batch(-1, 0, 0, 0, 3);
        CHECK.due("stays above", x.state(2, 8, 16), Integer.MAX_VALUE);
        CHECK.due("digest has the place with its sign", x.truth(1, 8),
                Trees.mix(x.node(1, 8, 1), Integer.MIN_VALUE));
    }

    private static void outsideTheProgram() {
        DisputeHalving x = new DisputeHalving();
        x.instruction(0, 3, 0, 8);
        x.instruction(1, 3, 3, 0);
        x.batch(1, 1, 1, 1, 4);
        int[] done = {0, 1, 2, 2, 2};
        for (int s = 0; s < done.length; s++) {
            CHECK.due("steps done before " + s, x.state(0, s, 17), done[s]);
            CHECK.due("place at " + s, x.state(0, s, 16), done[s]);
        }
        CHECK.due("cell at the end", x.state(0, 16, 3), 16);
        CHECK.due("digest stays", x.truth(0, 16), x.truth(0, 2));
    }

    private static void stateLimits() {
        DisputeHalving x = new DisputeHalving();
        x.instruction(9, 0, 0, 0);
        x.batch(1, 1, 1, 1, 1);
        int[] noBatch = {-1, 1, 8, Integer.MAX_VALUE, Integer.MIN_VALUE};
        for (int batch : noBatch) {
            CHECK.due("truth batch " + batch, x.truth(batch, 0), 0);
            CHECK.due("state batch " + batch, x.state(batch, 0, 0), 0);
            CHECK.due("node batch " + batch, x.node(batch, 0, 1), 0);
        }
        int[] noStep = {-1, 3, Integer.MAX_VALUE, Integer.MIN_VALUE};
        for (int s : noStep) {
            CHECK.due("truth s " + s, x.truth(0, s), 0);
            CHECK.due("state s " + s, x.state(0, s, 0), 0);
            CHECK.due("node s " + s, x.node(0, s, 1), 0);
        }
        int[] noWhat = {-1, 18, Integer.MAX_VALUE, Integer.MIN_VALUE};
        for (int what : noWhat) {
            CHECK.due("state what " + what, x.state(0, 1, what), 0);
        }
        int[] noNode = {-1, 0, 32, Integer.MAX_VALUE, Integer.MIN_VALUE};
        for (int i : noNode) {
            CHECK.due("node " + i, x.node(0, 1, i), 0);
        }
        CHECK.holds("node 31 is there", x.node(0, 2, 31) != 0);
    }

    private static void treeOfEachState() {
        DisputeHalving x = new DisputeHalving();
        x.instruction(1, 0, 1, 0);
        x.instruction(8, 0, 0, 0);
        x.instruction(9, 0, 0, 0);
        x.batch(-9, 3, Integer.MIN_VALUE, -1, 3);
        int[] cells = new int[16];
        for (int s = 0; s <= 8; s += 4) {
            for (int k = 0; k < 16; k++) {
                cells[k] = x.state(0, s, k);
            }
            for (int i = 1; i < 32; i++) {
                CHECK.due("node " + i + " at " + s, x.node(0, s, i), Trees.node(cells, i));
            }
            CHECK.due("truth at " + s, x.truth(0, s), Trees.digest(cells, x.state(0, s, 16)));
        }
    }
}
