/** The boundary cases that promises 11, 12, 14 and 15 and section 3 name: paper, cell, judge, write. */
public final class EdgesOfPaperTest {
    private static final int NONE = DisputeHalving.NONE;
    private static final int MIN = Integer.MIN_VALUE;
    private static final int MAX = Integer.MAX_VALUE;
    private static final Check CHECK = new Check("EdgesOfPaperTest");
    private static final Stays STAYS = new Stays(CHECK);

    /** The first STATE of every BATCH here but where another is told: CELLS that tell CELLS 15 and 0 among them. */
    private static final int[] FIRST = {-1, 16, 9, MIN, 0, 0, 0, 0, 0, 0, 0, 0, 0, 0, 0, 0};

    public static void main(String[] args) {
        paperTakesEverything();
        paperEmptiesAFullOne();
        cellNumber();
        cellIsThere();
        cellFour();
        cellTakesEveryValue();
        judgeBatch();
        judgeLow();
        judgeLowsPlace();
        judgeWayUp();
        judgeEveryWayUp();
        judgeMissingA();
        judgeMissingB();
        judgeMissingFetched();
        judgeMissingStored();
        judgeHigh();
        judgeTheFirstReason();
        judgeOutsideTheProgram();
        judgeWritesEveryCell();
        judgeRunsOver();
        judgeWithoutCells();
        judgeLeavesThePaper();
        writeBatch();
        writeStep();
        writeThoseCellsAlone();
        writeNoCells();
        writeOverAFullPaper();
        CHECK.end();
    }

    /** BATCH 0: one INSTRUCTION, one STEP, from FIRST. */
    private static DisputeHalving one(int op, int a, int b, int c) {
        DisputeHalving x = new DisputeHalving();
        x.instruction(op, a, b, c);
        x.batch(FIRST[0], FIRST[1], FIRST[2], FIRST[3], 0);
        return x;
    }

    /** Puts the PLACE 0, NODE 1 and these CELLS of FIRST on THE PAPER. */
    private static void show(DisputeHalving x, int... cells) {
        x.paper(0, Trees.node(FIRST, 1));
        for (int k : cells) {
            Trees.show(x, FIRST, k);
        }
    }

    private static int judged(DisputeHalving x) {
        return x.judge(0, x.truth(0, 0), x.truth(0, 1));
    }

    private static DisputeHalving shown(int op, int a, int b, int... cells) {
        DisputeHalving x = one(op, a, b, 1);
        show(x, cells);
        return x;
    }

    /** CELLS 0 .. 3 on THE PAPER, which is GOOD so. */
    private static DisputeHalving fullPaper() {
        DisputeHalving x = shown(1, 0, 1, 0, 1, 2, 3);
        CHECK.due("a full paper", judged(x), 0);
        return x;
    }

    /** Promise 11 refuses nothing. */
    private static void paperTakesEverything() {
        int[] places = {MIN, -1, 0, 24, MAX};
        long[] nodes = {Long.MIN_VALUE, -1, 0, 1, Long.MAX_VALUE};
        DisputeHalving x = one(0, 0, 0, 0);
        for (int place : places) {
            for (long node : nodes) {
                CHECK.due("paper " + place + " " + node, x.paper(place, node), 1);
                int want = place == 0 ? 3 : 0;
                long digest = Trees.mix(node, place);
                CHECK.due("judge at " + place + " " + node, x.judge(0, digest, digest), want);
            }
        }
    }

    /** Promise 11: "THE PAPER is empty but for a PLACE and NODE 1". */
    private static void paperEmptiesAFullOne() {
        DisputeHalving x = fullPaper();
        CHECK.due("paper", x.paper(0, Trees.node(FIRST, 1)), 1);
        CHECK.due("its cells are gone", judged(x), 3);
        CHECK.due("room for one that was there", Trees.show(x, FIRST, 1), 1);
        CHECK.due("and another", Trees.show(x, FIRST, 0), 2);
        CHECK.due("good", judged(x), 0);
    }

    /** Promise 12: "NONE: no such CELL". */
    private static void cellNumber() {
        STAYS.behind("cell: no such cell", Scenes::busy, NONE,
                x -> x.cell(-1, 1, 2, 3, 4, 5), x -> x.cell(16, 1, 2, 3, 4, 5), x -> x.cell(MIN, 1, 2, 3, 4, 5),
                x -> x.cell(MAX, 1, 2, 3, 4, 5));
        CHECK.due("cell 0", new DisputeHalving().cell(0, 1, 2, 3, 4, 5), 1);
        CHECK.due("cell 15", new DisputeHalving().cell(15, 1, 2, 3, 4, 5), 1);
    }

    /** Promise 12: "NONE: .. or it is there": what it had stays. */
    private static void cellIsThere() {
        STAYS.behind("cell: it is there", () -> shown(1, 0, 1, 0, 1), NONE,
                x -> x.cell(0, 1, 2, 3, 4, 5), x -> x.cell(1, 1, 2, 3, 4, 5), x -> Trees.show(x, FIRST, 0));
        DisputeHalving x = shown(1, 0, 1, 0, 1);
        x.cell(0, 1, 2, 3, 4, 5);
        CHECK.due("good still", judged(x), 0);
        CHECK.due("another is taken", Trees.show(x, FIRST, 15), 3);
        DisputeHalving y = one(1, 0, 1, 0);
        y.write(0, 0);
        CHECK.due("a written one is there", y.cell(1, 1, 2, 3, 4, 5), NONE);
        CHECK.due("one that is not written", y.cell(2, 1, 2, 3, 4, 5), 3);
    }

    /** Promise 12: "NONE: .. there are 4". */
    private static void cellFour() {
        STAYS.behind("cell: there are 4", EdgesOfPaperTest::fullPaper, NONE,
                x -> x.cell(4, 1, 2, 3, 4, 5), x -> x.cell(15, 1, 2, 3, 4, 5), x -> x.cell(3, 1, 2, 3, 4, 5));
        DisputeHalving x = new DisputeHalving();
        for (int i = 1; i <= 4; i++) {
            CHECK.due("the " + i + "th", x.cell(16 - i, 1, 2, 3, 4, 5), i);
        }
        CHECK.due("the fifth", x.cell(0, 1, 2, 3, 4, 5), NONE);
    }

    /** Promise 12 refuses no value and no NODES. */
    private static void cellTakesEveryValue() {
        DisputeHalving x = new DisputeHalving();
        CHECK.due("lowest", x.cell(0, MIN, Long.MIN_VALUE, Long.MIN_VALUE, Long.MIN_VALUE, Long.MIN_VALUE), 1);
        CHECK.due("highest", x.cell(1, MAX, Long.MAX_VALUE, Long.MAX_VALUE, Long.MAX_VALUE, Long.MAX_VALUE), 2);
        CHECK.due("zero", x.cell(2, 0, 0, 0, 0, 0), 3);
    }

    /** Promise 14: "NONE: no such BATCH". */
    private static void judgeBatch() {
        STAYS.behind("judge: no such batch", Scenes::busy, NONE,
                x -> x.judge(-1, 0, 0), x -> x.judge(2, 0, 0), x -> x.judge(8, 0, 0), x -> x.judge(MIN, 0, 0),
                x -> x.judge(MAX, 0, 0));
        DisputeHalving x = new DisputeHalving();
        for (int i = 0; i < 8; i++) {
            x.instruction(0, 0, 0, i);
            x.batch(5, 0, 0, 0, 0);
        }
        x.write(0, 0);
        for (int i = 0; i < 8; i++) {
            CHECK.due("judge by batch " + i, x.judge(i, x.truth(0, 0), x.truth(i, 1)), 0);
            CHECK.due("judge by batch " + i, x.judge(i, x.truth(0, 0), x.truth((i + 1) % 8, 1)), 4);
        }
        CHECK.due("no batch 8", x.judge(8, x.truth(0, 0), x.truth(0, 1)), NONE);
    }

    /** Promise 14: "1 LOW's DIGEST", one beside it on either side. */
    private static void judgeLow() {
        DisputeHalving x = shown(1, 0, 1, 0, 1);
        long low = x.truth(0, 0);
        long high = x.truth(0, 1);
        CHECK.due("low", x.judge(0, low, high), 0);
        CHECK.due("one more", x.judge(0, low + 1, high), 1);
        CHECK.due("one less", x.judge(0, low - 1, high), 1);
        CHECK.due("another sign", x.judge(0, low ^ Long.MIN_VALUE, high), 1);
        CHECK.due("another half", x.judge(0, low ^ 1L << 32, high), 1);
    }

    /** Section 3: "MIX(NODE 1, PLACE) is LOW's DIGEST": another PLACE or NODE 1 is another DIGEST. */
    private static void judgeLowsPlace() {
        DisputeHalving x = one(1, 0, 1, 0);
        int[] places = {-1, 1, MIN, MAX};
        for (int place : places) {
            x.paper(place, Trees.node(FIRST, 1));
            Trees.show(x, FIRST, 0);
            Trees.show(x, FIRST, 1);
            CHECK.due("place " + place, judged(x), 1);
        }
        x.paper(0, Trees.node(FIRST, 1) + 1);
        Trees.show(x, FIRST, 0);
        Trees.show(x, FIRST, 1);
        CHECK.due("another node 1", judged(x), 1);
    }

    /** Shows CELL k with one thing changed: 0 .. 3 a NODE beside its way up, 4 what it has; 5 nothing. */
    private static void showSpoilt(DisputeHalving x, int k, int spoilt) {
        long[] beside = new long[4];
        for (int level = 0; level < 4; level++) {
            beside[level] = Trees.beside(FIRST, k, level) + (level == spoilt ? 1 : 0);
        }
        x.cell(k, FIRST[k] + (spoilt == 4 ? 1 : 0), beside[0], beside[1], beside[2], beside[3]);
    }

    /** Promise 14: "2 a way up": each of its four NODES and the CELL itself, for every CELL. */
    private static void judgeWayUp() {
        for (int k = 0; k < 16; k++) {
            for (int spoilt = 0; spoilt <= 5; spoilt++) {
                DisputeHalving x = one(0, k, 0, 77);
                show(x);
                showSpoilt(x, k, spoilt);
                CHECK.due("cell " + k + " spoilt " + spoilt, judged(x), spoilt == 5 ? 0 : 2);
            }
        }
    }

    /** Section 3: "each CELL's way up": the first and the last of four, asked for or not. */
    private static void judgeEveryWayUp() {
        int[] cells = {0, 1, 7, 15};
        for (int wrong = 0; wrong <= 4; wrong++) {
            DisputeHalving x = one(1, 0, 1, 0);
            show(x);
            for (int i = 0; i < 4; i++) {
                showSpoilt(x, cells[i], i == wrong ? 3 : 5);
            }
            CHECK.due("wrong one " + wrong, judged(x), wrong == 4 ? 0 : 2);
        }
        DisputeHalving x = one(0, 0, 0, 0);
        show(x);
        x.cell(1, FIRST[0], Trees.beside(FIRST, 0, 0), Trees.beside(FIRST, 0, 1), Trees.beside(FIRST, 0, 2),
                Trees.beside(FIRST, 0, 3));
        CHECK.due("a cell with its neighbour's way", judged(x), 2);
    }

    /** Section 3: "Asked for and written are: 0, 5, 9 A", and A in all others. */
    private static void judgeMissingA() {
        int[] alone = {0, 5, 9};
        for (int op : alone) {
            CHECK.due("A alone, op " + op, judged(shown(op, 2, 1, 2)), 0);
            CHECK.due("B alone, op " + op, judged(shown(op, 2, 1, 1)), 3);
            CHECK.due("no cell, op " + op, judged(shown(op, 2, 1)), 3);
            CHECK.due("all others, op " + op, judged(shown(op, 2, 1, 0, 1, 3, 4)), 3);
        }
        for (int op = 0; op <= 9; op++) {
            CHECK.due("without A, op " + op, judged(shown(op, 2, 1, 0, 1, 9, 15)), 3);
        }
    }

    /** "1 2 3 4 6 A, B". */
    private static void judgeMissingB() {
        int[] both = {1, 2, 3, 4, 6};
        for (int op : both) {
            CHECK.due("A and B, op " + op, judged(shown(op, 2, 1, 2, 1)), 0);
            CHECK.due("B and A, op " + op, judged(shown(op, 2, 1, 1, 2)), 0);
            CHECK.due("A alone, op " + op, judged(shown(op, 2, 1, 2)), 3);
            CHECK.due("B alone, op " + op, judged(shown(op, 2, 1, 1)), 3);
            CHECK.due("A twice, op " + op, judged(shown(op, 2, 2, 2)), 0);
            CHECK.due("A twice without it, op " + op, judged(shown(op, 2, 2, 1)), 3);
        }
    }

    /** "7 A, B and the CELL that B tells": -1 tells 15, 16 tells 0. */
    private static void judgeMissingFetched() {
        CHECK.due("15 by -1", judged(shown(7, 2, 0, 2, 0, 15)), 0);
        CHECK.due("15 is missing", judged(shown(7, 2, 0, 2, 0, 14)), 3);
        CHECK.due("0 by 16", judged(shown(7, 2, 1, 2, 1, 0)), 0);
        CHECK.due("0 is missing", judged(shown(7, 2, 1, 2, 1, 9)), 3);
        CHECK.due("0 by the lowest int", judged(shown(7, 2, 3, 0, 3, 2)), 0);
        CHECK.due("B is missing", judged(shown(7, 2, 0, 2, 15)), 3);
        CHECK.due("A is missing", judged(shown(7, 2, 0, 0, 15)), 3);
        CHECK.due("A is told", judged(shown(7, 15, 0, 0, 15)), 0);
        CHECK.due("B is told", judged(shown(7, 2, 4, 2, 4, 0)), 0);
        CHECK.due("all are one", judged(shown(7, 4, 4, 4, 0)), 0);
        CHECK.due("the told one is missing", judged(shown(7, 4, 4, 4)), 3);
    }

    /** "8 A, B and the CELL that A tells". */
    private static void judgeMissingStored() {
        CHECK.due("15 by -1", judged(shown(8, 0, 2, 0, 2, 15)), 0);
        CHECK.due("15 is missing", judged(shown(8, 0, 2, 0, 2, 9)), 3);
        CHECK.due("0 by 16", judged(shown(8, 1, 2, 1, 2, 0)), 0);
        CHECK.due("0 is missing", judged(shown(8, 1, 2, 1, 2, 9)), 3);
        CHECK.due("0 by the lowest int", judged(shown(8, 3, 2, 0, 3, 2)), 0);
        CHECK.due("A is missing", judged(shown(8, 0, 2, 2, 15)), 3);
        CHECK.due("B is missing", judged(shown(8, 0, 2, 0, 15)), 3);
        CHECK.due("B is told", judged(shown(8, 0, 15, 0, 15)), 0);
        CHECK.due("A twice", judged(shown(8, 0, 0, 0, 15)), 0);
        CHECK.due("A twice, the told one is missing", judged(shown(8, 0, 0, 0)), 3);
    }

    /** Promise 14: "4 HIGH's", one beside it on either side, for each op. */
    private static void judgeHigh() {
        for (int op = 0; op <= 9; op++) {
            DisputeHalving x = one(op, 0, 1, 0);
            x.write(0, 0);
            long low = x.truth(0, 0);
            long high = x.truth(0, 1);
            CHECK.due("high, op " + op, x.judge(0, low, high), 0);
            CHECK.due("one more, op " + op, x.judge(0, low, high + 1), 4);
            CHECK.due("one less, op " + op, x.judge(0, low, high - 1), 4);
            CHECK.due("another half, op " + op, x.judge(0, low, high ^ 1L << 32), 4);
        }
    }

    /** Promise 14: "else the first reason": of all that are there together. */
    private static void judgeTheFirstReason() {
        DisputeHalving x = one(1, 0, 1, 0);
        long low = x.truth(0, 0);
        long high = x.truth(0, 1);
        show(x);
        showSpoilt(x, 0, 2);
        CHECK.due("1, 2, 3 and 4", x.judge(0, low + 1, high + 1), 1);
        CHECK.due("2, 3 and 4", x.judge(0, low, high + 1), 2);
        show(x, 0);
        CHECK.due("1, 3 and 4", x.judge(0, low + 1, high + 1), 1);
        CHECK.due("3 and 4", x.judge(0, low, high + 1), 3);
        show(x, 0, 1);
        CHECK.due("1 and 4", x.judge(0, low + 1, high + 1), 1);
        CHECK.due("4", x.judge(0, low, high + 1), 4);
        CHECK.due("none", x.judge(0, low, high), 0);
    }

    /** "if there is none there (above or below) it changes nothing": no CELL is asked for, HIGH is LOW. */
    private static void judgeOutsideTheProgram() {
        DisputeHalving x = new DisputeHalving();
        x.instruction(0, 0, 0, 5);
        x.instruction(0, 0, 0, 6);
        x.batch(FIRST[0], FIRST[1], FIRST[2], FIRST[3], 1);
        int[] places = {2, -1, 23, 24, MAX, MIN};
        for (int place : places) {
            long digest = Trees.digest(FIRST, place);
            x.paper(place, Trees.node(FIRST, 1));
            CHECK.due("place " + place, x.judge(0, digest, digest), 0);
            CHECK.due("another high at " + place, x.judge(0, digest, digest + 1), 4);
            CHECK.due("the place does not grow at " + place, x.judge(0, digest, Trees.digest(FIRST, place + 1)), 4);
        }
        int[] inside = {0, 1};
        for (int place : inside) {
            long digest = Trees.digest(FIRST, place);
            x.paper(place, Trees.node(FIRST, 1));
            CHECK.due("place " + place, x.judge(0, digest, digest), 3);
        }
    }

    /** "its leaf and way up made anew": each CELL is written, from its left and from its right. */
    private static void judgeWritesEveryCell() {
        for (int k = 0; k < 16; k++) {
            DisputeHalving x = one(0, k, 0, -12345);
            show(x, k);
            int[] behind = FIRST.clone();
            behind[k] = -12345;
            CHECK.due("cell " + k, x.judge(0, Trees.digest(FIRST, 0), Trees.digest(behind, 1)), 0);
            CHECK.due("cell " + k + " as it was", x.judge(0, Trees.digest(FIRST, 0), Trees.digest(FIRST, 1)), 4);
        }
    }

    /** The judge's numbers run over as the machine's do. */
    private static void judgeRunsOver() {
        int[][] lines = {{1, 3, 0}, {2, 3, 2}, {3, 3, 0}, {5, 3, 0}, {6, 3, 1}, {1, 3, 3}};
        int[] results = {MAX, MAX - 8, MIN, 1, 1, 0};
        for (int i = 0; i < lines.length; i++) {
            DisputeHalving x = shown(lines[i][0], lines[i][1], lines[i][2], 0, 1, 2, 3);
            int[] behind = FIRST.clone();
            behind[3] = results[i];
            CHECK.due("op " + lines[i][0], x.judge(0, Trees.digest(FIRST, 0), Trees.digest(behind, 1)), 0);
        }
        DisputeHalving x = one(9, 3, 0, MIN);
        show(x, 3);
        CHECK.due("a jump", x.judge(0, Trees.digest(FIRST, 0), Trees.digest(FIRST, MIN)), 0);
        DisputeHalving y = one(9, 4, 0, MIN);
        show(y, 4);
        CHECK.due("no jump", y.judge(0, Trees.digest(FIRST, 0), Trees.digest(FIRST, 1)), 0);
    }

    /** A PAPER without CELLS: an INSTRUCTION always asks for one. */
    private static void judgeWithoutCells() {
        for (int op = 0; op <= 9; op++) {
            CHECK.due("no cells, op " + op, judged(shown(op, 0, 1)), 3);
        }
        DisputeHalving x = one(0, 0, 0, 0);
        CHECK.due("an empty paper", judged(x), 1);
        // the document tells no PLACE and NODE 1 of an empty PAPER; both are taken as 0, and MIX(0, 0) is 0
        CHECK.due("an empty paper from 0", x.judge(0, 0, 0), 3);
        CHECK.due("an empty paper from 1", x.judge(0, 1, 0), 1);
    }

    /** Promise 14 only looks. */
    private static void judgeLeavesThePaper() {
        STAYS.behind("judge: good", EdgesOfPaperTest::fullPaper, 0, x -> judged(x), x -> judged(x));
        STAYS.behind("judge: low", Scenes::busy, 1, x -> x.judge(0, 1, 2), x -> x.judge(1, 1, 2));
        STAYS.behind("judge: high", Scenes::busy, 4, x -> x.judge(0, x.truth(0, 2), 2));
    }

    /** Promise 15: "NONE: none such (THE PAPER stays)", of a BATCH. */
    private static void writeBatch() {
        STAYS.behind("write: no such batch", Scenes::busy, NONE,
                x -> x.write(-1, 0), x -> x.write(2, 0), x -> x.write(8, 0), x -> x.write(MIN, 0),
                x -> x.write(MAX, 0));
        DisputeHalving x = new DisputeHalving();
        for (int i = 0; i < 8; i++) {
            Scenes.adder(x, 0);
        }
        CHECK.due("batch 0", x.write(0, 0), 2);
        CHECK.due("batch 7", x.write(7, 0), 2);
        CHECK.due("batch 8", x.write(8, 0), NONE);
    }

    /** Promise 15: "STEP s (0 .. N - 1)". */
    private static void writeStep() {
        STAYS.behind("write: no such step", Scenes::busy, NONE,
                x -> x.write(0, -1), x -> x.write(0, 4), x -> x.write(0, 5), x -> x.write(0, MIN),
                x -> x.write(0, MAX), x -> x.write(1, 1), x -> x.write(1, -1));
        int[] powers = {0, 1, 10};
        for (int r : powers) {
            DisputeHalving x = Scenes.withAdder(r);
            int last = (1 << r) - 1;
            CHECK.due("step 0, r " + r, x.write(0, 0), 2);
            CHECK.due("good for step 0, r " + r, x.judge(0, x.truth(0, 0), x.truth(0, 1)), 0);
            CHECK.due("the last step, r " + r, x.write(0, last), r == 0 ? 2 : 1);
            CHECK.due("good for the last step, r " + r, x.judge(0, x.truth(0, last), x.truth(0, last + 1)), 0);
            CHECK.due("behind the last, r " + r, x.write(0, last + 1), NONE);
            CHECK.due("the paper stays, r " + r, x.judge(0, x.truth(0, last), x.truth(0, last + 1)), 0);
        }
    }

    /** Promise 15: "(those CELLS alone that are asked for or written ..): how many CELLS". */
    private static void writeThoseCellsAlone() {
        int[][] lines = {
            {0, 2, 1, 2, -1, -1}, {5, 2, 1, 2, -1, -1}, {9, 2, 1, 2, -1, -1}, {1, 2, 1, 2, 1, -1}, {6, 2, 2, 2, -1, -1},
            {7, 2, 0, 2, 0, 15}, {7, 2, 1, 2, 1, 0}, {7, 4, 4, 4, 0, -1}, {7, 0, 4, 0, 4, -1},
            {8, 0, 2, 0, 2, 15}, {8, 0, 15, 0, 15, -1}, {8, 1, 0, 1, 0, -1}, {8, 0, 0, 0, 15, -1}};
        for (int[] line : lines) {
            String name = "op " + line[0] + " on " + line[1] + " " + line[2];
            for (int k = 0; k < 16; k++) {
                DisputeHalving x = one(line[0], line[1], line[2], 1);
                int count = 0;
                boolean isThere = false;
                for (int i = 3; i < 6; i++) {
                    count += line[i] >= 0 ? 1 : 0;
                    isThere |= line[i] == k;
                }
                CHECK.due(name + ": how many", x.write(0, 0), count);
                CHECK.due(name + ": good", judged(x), 0);
                CHECK.due(name + ": cell " + k, x.cell(k, 0, 0, 0, 0, 0), isThere ? NONE : count + 1);
            }
        }
    }

    /** Promise 15 where no INSTRUCTION is at PLACE: no CELL, and GOOD. */
    private static void writeNoCells() {
        DisputeHalving x = new DisputeHalving();
        x.instruction(9, 0, 0, MIN);
        x.batch(1, 0, 0, 0, 1);
        CHECK.due("step 0", x.write(0, 0), 1);
        CHECK.due("step 1, below", x.write(0, 1), 0);
        CHECK.due("good", x.judge(0, x.truth(0, 1), x.truth(0, 2)), 0);
        CHECK.due("the cell of step 0 is gone", x.cell(0, 1, 2, 3, 4, 5), 1);
        x.instruction(0, 0, 0, 5);
        x.batch(1, 0, 0, 0, 1);
        CHECK.due("step 1, above", x.write(1, 1), 0);
        CHECK.due("good", x.judge(1, x.truth(1, 1), x.truth(1, 2)), 0);
    }

    /** A full PAPER gives way to the right one. */
    private static void writeOverAFullPaper() {
        DisputeHalving x = fullPaper();
        CHECK.due("write", x.write(0, 0), 2);
        CHECK.due("room for two more", x.cell(2, 0, 0, 0, 0, 0), 3);
        CHECK.due("room for one more", x.cell(3, 0, 0, 0, 0, 0), 4);
        CHECK.due("no more room", x.cell(4, 0, 0, 0, 0, 0), NONE);
    }
}
