/** Promises 11, 12, 14 and 15: paper, cell, judge, write. */
public final class PaperTest {
    private static final int NONE = DisputeHalving.NONE;
    private static final Check CHECK = new Check("PaperTest");

    public static void main(String[] args) {
        cellLimits();
        paperEmptiesThePaper();
        writeAsksForTheseCells();
        writeLimits();
        writtenPaperIsGood();
        reasonsInOrder();
        everyWayUpCounts();
        moreCellsThanAsked();
        missingCells();
        outsideTheProgram();
        CHECK.end();
    }

    private static void cellLimits() {
        DisputeHalving x = new DisputeHalving();
        int[] wrong = {-1, 16, Integer.MIN_VALUE, Integer.MAX_VALUE};
        for (int k : wrong) {
            CHECK.due("cell " + k, x.cell(k, 0, 0, 0, 0, 0), NONE);
        }
        CHECK.due("cell 15", x.cell(15, 1, 2, 3, 4, 5), 1);
        CHECK.due("cell 15 again", x.cell(15, 1, 2, 3, 4, 5), NONE);
        CHECK.due("cell 0", x.cell(0, 1, 2, 3, 4, 5), 2);
        CHECK.due("cell 7", x.cell(7, 1, 2, 3, 4, 5), 3);
        CHECK.due("cell 3", x.cell(3, 1, 2, 3, 4, 5), 4);
        CHECK.due("a fifth cell", x.cell(4, 1, 2, 3, 4, 5), NONE);
        CHECK.due("cell 3 again", x.cell(3, 1, 2, 3, 4, 5), NONE);
    }

    private static void paperEmptiesThePaper() {
        DisputeHalving x = new DisputeHalving();
        x.cell(3, 1, 2, 3, 4, 5);
        CHECK.due("paper", x.paper(Integer.MIN_VALUE, Long.MIN_VALUE), 1);
        CHECK.due("cell 3 is no longer there", x.cell(3, 1, 2, 3, 4, 5), 1);
        CHECK.due("paper", x.paper(0, 0), 1);
        CHECK.due("cell 4", x.cell(4, 1, 2, 3, 4, 5), 1);
    }

    private static DisputeHalving one(int op, int a, int b, int c) {
        DisputeHalving x = new DisputeHalving();
        x.instruction(op, a, b, c);
        x.batch(5, 6, 7, 8, 0);
        return x;
    }

    private static void writeAsksForTheseCells() {
        int[] asksForA = {0, 5, 9};
        for (int op : asksForA) {
            CHECK.due("write op " + op, one(op, 2, 3, 1).write(0, 0), 1);
        }
        int[] asksForBoth = {1, 2, 3, 4, 6};
        for (int op : asksForBoth) {
            CHECK.due("write op " + op, one(op, 2, 3, 1).write(0, 0), 2);
            CHECK.due("write op " + op + " on one cell", one(op, 2, 2, 1).write(0, 0), 1);
        }
        CHECK.due("write fetch", one(7, 1, 0, 1).write(0, 0), 3);
        CHECK.due("write fetch of itself", one(7, 4, 4, 1).write(0, 0), 2);
        CHECK.due("write store", one(8, 0, 1, 1).write(0, 0), 3);
        CHECK.due("write store into zero", one(8, 4, 1, 1).write(0, 0), 3);
        CHECK.due("write store on one cell", one(8, 15, 0, 1).write(0, 0), 2);
    }

    private static void writeLimits() {
        DisputeHalving x = new DisputeHalving();
        CHECK.due("write without batch", x.write(0, 0), NONE);
        x.instruction(1, 0, 1, 0);
        x.batch(1, 2, 3, 4, 1);
        x.paper(9, 9);
        x.cell(3, 1, 2, 3, 4, 5);
        int[] wrong = {-1, 2, Integer.MIN_VALUE, Integer.MAX_VALUE};
        for (int s : wrong) {
            CHECK.due("write s " + s, x.write(0, s), NONE);
        }
        CHECK.due("write batch 1", x.write(1, 0), NONE);
        CHECK.due("write batch -1", x.write(-1, 0), NONE);
        CHECK.due("the paper stays", x.cell(3, 1, 2, 3, 4, 5), NONE);
        CHECK.due("the paper stays", x.judge(0, Trees.mix(9, 9), 0), 2);
        CHECK.due("write last", x.write(0, 1), 0);
        CHECK.due("the paper is new", x.judge(0, x.truth(0, 1), x.truth(0, 2)), 0);
        CHECK.due("the paper has no cell", x.cell(3, 1, 2, 3, 4, 5), 1);
    }

    private static void writtenPaperIsGood() {
        DisputeHalving x = new DisputeHalving();
        for (int op = 0; op <= 8; op++) {
            x.instruction(op, op, (op * 5 + 1) % 16, 3 + op);
            x.instruction(op, (op + 1) % 4, op % 4, -2 - op);
        }
        x.instruction(9, 0, 0, 0);
        x.batch(-77, 13, 1 << 30, 5, 6);
        for (int s = 0; s < 64; s++) {
            CHECK.holds("cells at " + s, x.write(0, s) >= 0);
            CHECK.due("judge at " + s, x.judge(0, x.truth(0, s), x.truth(0, s + 1)), 0);
        }
        CHECK.due("judge leaves the paper", x.judge(0, x.truth(0, 63), x.truth(0, 64)), 0);
        CHECK.due("judge batch 1", x.judge(1, 0, 0), NONE);
        CHECK.due("judge batch -1", x.judge(-1, 0, 0), NONE);
    }

    private static final int[] FIRST = {5, 6, 7, 8, 0, 0, 0, 0, 0, 0, 0, 0, 0, 0, 0, 0};

    private static void reasonsInOrder() {
        DisputeHalving x = one(1, 2, 3, 0);
        long low = x.truth(0, 0);
        long high = x.truth(0, 1);
        long root = Trees.node(FIRST, 1);
        x.paper(0, root);
        Trees.show(x, FIRST, 2);
        Trees.show(x, FIRST, 3);
        CHECK.due("good", x.judge(0, low, high), 0);
        CHECK.due("high", x.judge(0, low, high + 1), 4);
        CHECK.due("low", x.judge(0, low + 1, high), 1);
        CHECK.due("low before high", x.judge(0, low + 1, high + 1), 1);
        x.paper(1, root);
        Trees.show(x, FIRST, 2);
        Trees.show(x, FIRST, 3);
        CHECK.due("another place", x.judge(0, low, high), 1);
        x.paper(0, root);
        x.cell(2, 70, 1, 2, 3, 4);
        CHECK.due("way up before missing and high", x.judge(0, low, high + 1), 2);
        CHECK.due("low before way up", x.judge(0, low - 1, high), 1);
        x.paper(0, root);
        Trees.show(x, FIRST, 2);
        CHECK.due("missing before high", x.judge(0, low, high + 1), 3);
    }

    private static void everyWayUpCounts() {
        DisputeHalving x = one(1, 2, 3, 0);
        long low = x.truth(0, 0);
        long high = x.truth(0, 1);
        for (int spoilt = 0; spoilt < 5; spoilt++) {
            x.paper(0, Trees.node(FIRST, 1));
            Trees.show(x, FIRST, 2);
            Trees.show(x, FIRST, 3);
            long[] beside = new long[4];
            for (int level = 0; level < 4; level++) {
                beside[level] = Trees.beside(FIRST, 9, level) + (level == spoilt ? 1 : 0);
            }
            int value = spoilt == 4 ? 1 : 0;
            CHECK.due("third cell", x.cell(9, value, beside[0], beside[1], beside[2], beside[3]), 3);
            CHECK.due("spoilt " + spoilt, x.judge(0, low, high), 2);
        }
    }

    private static void moreCellsThanAsked() {
        DisputeHalving x = one(1, 2, 3, 0);
        x.paper(0, Trees.node(FIRST, 1));
        int[] shown = {15, 3, 0, 2};
        for (int k : shown) {
            Trees.show(x, FIRST, k);
        }
        CHECK.due("four cells in any order", x.judge(0, x.truth(0, 0), x.truth(0, 1)), 0);
    }

    /** Judges op on cells 1 and 2 (6 and 7) with just these cells on the PAPER. */
    private static int judged(int op, int... shown) {
        DisputeHalving x = one(op, 1, 2, 9);
        x.paper(0, Trees.node(FIRST, 1));
        for (int k : shown) {
            Trees.show(x, FIRST, k);
        }
        return x.judge(0, x.truth(0, 0), x.truth(0, 1));
    }

    private static void missingCells() {
        for (int op = 0; op <= 9; op++) {
            boolean asksForA = op == 0 || op == 5 || op == 9;
            CHECK.due("nothing, op " + op, judged(op), 3);
            CHECK.due("b alone, op " + op, judged(op, 2), 3);
            CHECK.due("a alone, op " + op, judged(op, 1), asksForA ? 0 : 3);
            CHECK.due("a and b, op " + op, judged(op, 1, 2), op == 7 || op == 8 ? 3 : 0);
        }
        CHECK.due("fetch with the cell that B tells", judged(7, 7, 2, 1), 0);
        CHECK.due("fetch with the cell that A tells", judged(7, 6, 2, 1), 3);
        CHECK.due("fetch without B", judged(7, 7, 1), 3);
        CHECK.due("store with the cell that A tells", judged(8, 6, 2, 1), 0);
        CHECK.due("store with the cell that B tells", judged(8, 7, 2, 1), 3);
        CHECK.due("store without B", judged(8, 6, 1), 3);
    }

    private static void outsideTheProgram() {
        DisputeHalving x = one(0, 0, 0, 0);
        int[] places = {-1, 1, 24, Integer.MIN_VALUE, Integer.MAX_VALUE};
        for (int place : places) {
            long digest = Trees.digest(FIRST, place);
            x.paper(place, Trees.node(FIRST, 1));
            CHECK.due("same at place " + place, x.judge(0, digest, digest), 0);
            CHECK.due("other at place " + place, x.judge(0, digest, digest + 1), 4);
            Trees.show(x, FIRST, 4);
            CHECK.due("a cell more at place " + place, x.judge(0, digest, digest), 0);
            x.cell(5, 1, 1, 1, 1, 1);
            CHECK.due("a wrong cell at place " + place, x.judge(0, digest, digest), 2);
        }
    }
}
