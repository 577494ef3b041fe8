import java.math.BigInteger;

/** The boundary cases of the document's Terms: numbers that run over, PLACES, CELLS that are told, THE TREE. */
public final class EdgesOfTermsTest {
    private static final int MIN = Integer.MIN_VALUE;
    private static final int MAX = Integer.MAX_VALUE;
    private static final Check CHECK = new Check("EdgesOfTermsTest");

    public static void main(String[] args) {
        setTakesEveryInt();
        sumsRunOver();
        differencesRunOver();
        productsRunOver();
        xorOfSigns();
        turningByFiveBits();
        lessBySign();
        fetchByFourBits();
        storeByFourBits();
        jumpIfNotZero();
        placesOfTheProgram();
        placesFarOutside();
        behindTheLastInstruction();
        oneAndTwentyFour();
        mixRunsOver();
        leavesAndInnerNodes();
        signsInTheTree();
        CHECK.end();
    }

    /** CELL 0 behind one STEP of an INSTRUCTION with CELL 0 as A and CELL 1 as B. */
    private static int done(int op, int valueA, int valueB, int c) {
        DisputeHalving x = new DisputeHalving();
        x.instruction(op, 0, 1, c);
        x.batch(valueA, valueB, 0, 0, 0);
        return x.state(0, 1, 0);
    }

    /** "0 A is c". */
    private static void setTakesEveryInt() {
        int[] every = {MIN, MIN + 1, -1, 0, 1, MAX - 1, MAX};
        for (int c : every) {
            CHECK.due("set " + c, done(0, 12345, 6, c), c);
        }
    }

    /** "1 A is A + B", "ints of 32 bits, running over". */
    private static void sumsRunOver() {
        CHECK.due("the last sum", done(1, MAX - 1, 1, 0), MAX);
        CHECK.due("the first that runs over", done(1, MAX, 1, 0), MIN);
        CHECK.due("the lowest sum", done(1, MIN + 1, -1, 0), MIN);
        CHECK.due("the first that runs under", done(1, MIN, -1, 0), MAX);
        CHECK.due("both highest", done(1, MAX, MAX, 0), -2);
        CHECK.due("both lowest", done(1, MIN, MIN, 0), 0);
    }

    /** "2 A - B", "running over". */
    private static void differencesRunOver() {
        CHECK.due("the lowest difference", done(2, MIN + 1, 1, 0), MIN);
        CHECK.due("the first that runs under", done(2, MIN, 1, 0), MAX);
        CHECK.due("the highest difference", done(2, MAX - 1, -1, 0), MAX);
        CHECK.due("the first that runs over", done(2, MAX, -1, 0), MIN);
        CHECK.due("0 less the lowest", done(2, 0, MIN, 0), MIN);
        CHECK.due("lowest less highest", done(2, MIN, MAX, 0), 1);
    }

    /** "3 A B", "running over". */
    private static void productsRunOver() {
        CHECK.due("the highest product", done(3, 1 << 15, (1 << 16) - 1, 0), MAX - 32767);
        CHECK.due("the first that runs over", done(3, 1 << 15, 1 << 16, 0), MIN);
        CHECK.due("the lowest product", done(3, -(1 << 15), 1 << 16, 0), MIN);
        CHECK.due("lowest by -1", done(3, MIN, -1, 0), MIN);
        CHECK.due("highest by highest", done(3, MAX, MAX, 0), 1);
        CHECK.due("32 bits are gone", done(3, 1 << 16, 1 << 16, 0), 0);
    }

    /** "4 A xor B". */
    private static void xorOfSigns() {
        CHECK.due("with itself", done(4, MIN, MIN, 0), 0);
        CHECK.due("lowest with highest", done(4, MIN, MAX, 0), -1);
        CHECK.due("with -1", done(4, 0, -1, 0), -1);
    }

    /** "5 A turned left by the lowest 5 bits of c". */
    private static void turningByFiveBits() {
        int value = 0x80000006;
        int[] by = {0, 1, 31, 32, 33, 63, 64, -1, -31, -32, -33, MIN, MIN + 1, MAX};
        int[] lowest = {0, 1, 31, 0, 1, 31, 0, 31, 1, 0, 31, 0, 1, 31};
        int[] turned = new int[32];
        turned[0] = value;
        turned[1] = 0x0000000d;
        turned[31] = 0x40000003;
        for (int i = 0; i < by.length; i++) {
            CHECK.due("turned by " + by[i], done(5, value, 0, by[i]), turned[lowest[i]]);
        }
        for (int c = 0; c < 32; c++) {
            CHECK.due("one bit turned by " + c, done(5, 1, 0, c), 1 << c);
        }
    }

    /** "6 A is 1 if A is less than B, else 0". */
    private static void lessBySign() {
        CHECK.due("one below", done(6, 6, 7, 0), 1);
        CHECK.due("alike", done(6, 7, 7, 0), 0);
        CHECK.due("one above", done(6, 8, 7, 0), 0);
        CHECK.due("-1 and 0", done(6, -1, 0, 0), 1);
        CHECK.due("0 and -1", done(6, 0, -1, 0), 0);
        CHECK.due("lowest and highest", done(6, MIN, MAX, 0), 1);
        CHECK.due("highest and lowest", done(6, MAX, MIN, 0), 0);
        CHECK.due("lowest twice", done(6, MIN, MIN, 0), 0);
    }

    private static final int[] TELLING = {0, 1, 14, 15, 16, 17, 31, 32, -1, -2, -15, -16, -17, MIN, MIN + 1, MAX};
    private static final int[] TOLD = {0, 1, 14, 15, 0, 1, 15, 0, 15, 14, 1, 0, 15, 0, 1, 15};

    /** "7 A is the CELL whose number are the lowest 4 bits of B". */
    private static void fetchByFourBits() {
        for (int i = 0; i < TELLING.length; i++) {
            DisputeHalving x = new DisputeHalving();
            x.instruction(0, 14, 0, 814);
            x.instruction(0, 15, 0, 815);
            x.instruction(0, 5, 0, TELLING[i]);
            x.instruction(7, 6, 5, 3);
            x.batch(800, 801, 0, 0, 2);
            CHECK.due("fetched by " + TELLING[i], x.state(0, 4, 6), 800 + TOLD[i]);
            CHECK.due("B stays", x.state(0, 4, 5), TELLING[i]);
            CHECK.due("place goes on", x.state(0, 4, 16), 4);
        }
    }

    /** "8 that CELL whose number are the lowest 4 bits of A is B". */
    private static void storeByFourBits() {
        for (int i = 0; i < TELLING.length; i++) {
            DisputeHalving x = new DisputeHalving();
            x.instruction(0, 5, 0, TELLING[i]);
            x.instruction(8, 5, 6, 3);
            x.instruction(0, 6, 0, -9);
            x.instruction(8, 5, 6, 3);
            x.batch(0, 0, 0, 0, 2);
            for (int k = 0; k < 16; k++) {
                int other = k == 5 ? TELLING[i] : k == 6 ? -9 : 0;
                CHECK.due("cell " + k + " by " + TELLING[i], x.state(0, 4, k), k == TOLD[i] ? -9 : other);
            }
            CHECK.due("place goes on", x.state(0, 4, 16), 4);
        }
    }

    /** "9 if A is not 0, PLACE is c". */
    private static void jumpIfNotZero() {
        int[] values = {0, 1, -1, MIN, MAX};
        for (int value : values) {
            DisputeHalving x = new DisputeHalving();
            x.instruction(9, 0, 1, 7);
            x.batch(value, 55, 0, 0, 0);
            CHECK.due("place behind a jump if " + value, x.state(0, 1, 16), value == 0 ? 1 : 7);
            CHECK.due("A stays", x.state(0, 1, 0), value);
            CHECK.due("done", x.state(0, 1, 17), 1);
        }
    }

    /** Three INSTRUCTIONS: a jump to this PLACE, and two that show that they were done. */
    private static DisputeHalving jumpTo(int place) {
        DisputeHalving x = new DisputeHalving();
        x.instruction(9, 0, 0, place);
        x.instruction(0, 1, 0, 71);
        x.instruction(0, 2, 0, 72);
        x.batch(1, 0, 0, 0, 1);
        return x;
    }

    /** "A STEP does the one at PLACE; if there is none there (above or below) it changes nothing". */
    private static void placesOfTheProgram() {
        CHECK.due("the first place", jumpTo(0).state(0, 2, 17), 2);
        CHECK.due("the second place", jumpTo(1).state(0, 2, 1), 71);
        CHECK.due("the last place", jumpTo(2).state(0, 2, 2), 72);
        CHECK.due("place behind the last", jumpTo(2).state(0, 2, 16), 3);
        nothingChanges(3);
        nothingChanges(-1);
    }

    /** "(above or below)", as far as an int goes. */
    private static void placesFarOutside() {
        int[] places = {4, 23, 24, 25, MAX - 1, MAX, -2, -24, MIN + 1, MIN};
        for (int place : places) {
            nothingChanges(place);
        }
    }

    private static void nothingChanges(int place) {
        DisputeHalving x = jumpTo(place);
        CHECK.due("place " + place, x.state(0, 1, 16), place);
        CHECK.due("place stays " + place, x.state(0, 2, 16), place);
        CHECK.due("digest stays at " + place, x.truth(0, 2), x.truth(0, 1));
        CHECK.due("none is done at " + place, x.state(0, 2, 17), 1);
        int[] cells = {1, 0, 0, 0, 0, 0, 0, 0, 0, 0, 0, 0, 0, 0, 0, 0};
        CHECK.due("cells stay at " + place, x.truth(0, 2), Trees.digest(cells, place));
    }

    /** "PLACE grows by 1 where nothing else is told", up to the first PLACE that is above, and no further. */
    private static void behindTheLastInstruction() {
        DisputeHalving x = new DisputeHalving();
        for (int i = 0; i < 3; i++) {
            x.instruction(1, 0, 1, 0);
        }
        x.batch(0, 1, 0, 0, 3);
        for (int s = 0; s <= 8; s++) {
            CHECK.due("place behind " + s, x.state(0, s, 16), Math.min(s, 3));
            CHECK.due("cell behind " + s, x.state(0, s, 0), Math.min(s, 3));
        }
    }

    /** "A PROGRAM has 1 .. 24 INSTRUCTIONS .. at PLACES from 0 on". */
    private static void oneAndTwentyFour() {
        for (int length = 1; length <= 24; length += 23) {
            DisputeHalving x = new DisputeHalving();
            for (int i = 0; i < length; i++) {
                x.instruction(0, 4, 0, 500 + i);
            }
            x.batch(0, 0, 0, 0, 5);
            CHECK.due("place 0 of " + length, x.state(0, 1, 4), 500);
            CHECK.due("last place of " + length, x.state(0, length, 4), 499 + length);
            CHECK.due("all of " + length, x.state(0, 32, 17), length);
        }
    }

    /** MIX in whole numbers, cut to 64 bits at each step: no long runs over here. */
    private static long mixOfWholeNumbers(long x, long y) {
        BigInteger all = BigInteger.ONE.shiftLeft(64);
        BigInteger h = BigInteger.valueOf(x).multiply(new BigInteger("9e3779b97f4a7c15", 16));
        h = h.add(BigInteger.valueOf(y)).mod(all);
        h = h.xor(h.shiftRight(29));
        h = h.multiply(new BigInteger("bf58476d1ce4e5b9", 16)).mod(all);
        return h.xor(h.shiftRight(32)).longValue();
    }

    /** "64 bits, running over, >>> without sign": leaves of CELLS at the ends of the ints, and what is above. */
    private static void mixRunsOver() {
        int[] values = {0, 1, -1, MIN, MAX, MIN + 1, 0x9e3779b9};
        for (int value : values) {
            DisputeHalving x = new DisputeHalving();
            x.instruction(9, 0, 0, value);
            x.batch(value, value, ~value, -value, 0);
            long[] nodes = new long[32];
            for (int k = 0; k < 16; k++) {
                nodes[16 + k] = mixOfWholeNumbers(k, x.state(0, 1, k));
            }
            for (int i = 15; i >= 1; i--) {
                nodes[i] = mixOfWholeNumbers(nodes[2 * i], nodes[2 * i + 1]);
            }
            for (int i = 1; i <= 31; i++) {
                CHECK.due("node " + i + " with " + value, x.node(0, 1, i), nodes[i]);
            }
            CHECK.due("digest with " + value, x.truth(0, 1), mixOfWholeNumbers(nodes[1], x.state(0, 1, 16)));
        }
        CHECK.due("the tests' own mix", Trees.mix(Long.MIN_VALUE, -1), mixOfWholeNumbers(Long.MIN_VALUE, -1));
        CHECK.due("the tests' own mix", Trees.mix(Long.MAX_VALUE, Long.MAX_VALUE),
                mixOfWholeNumbers(Long.MAX_VALUE, Long.MAX_VALUE));
    }

    /** "NODES 16 .. 31 are its leaves"; "NODE i of 1 .. 15 is MIX(NODE 2 i, NODE 2 i + 1)". */
    private static void leavesAndInnerNodes() {
        DisputeHalving x = Scenes.withAdder(3);
        CHECK.due("the first leaf", x.node(0, 3, 16), Trees.mix(0, 6));
        CHECK.due("the second leaf", x.node(0, 3, 17), Trees.mix(1, 3));
        CHECK.due("the last leaf", x.node(0, 3, 31), Trees.mix(15, 0));
        CHECK.due("the last inner node", x.node(0, 3, 15), Trees.mix(x.node(0, 3, 30), x.node(0, 3, 31)));
        CHECK.due("the first inner node", x.node(0, 3, 8), Trees.mix(x.node(0, 3, 16), x.node(0, 3, 17)));
        CHECK.due("the top", x.node(0, 3, 1), Trees.mix(x.node(0, 3, 2), x.node(0, 3, 3)));
    }

    /** "CELLS and PLACES as longs, with their signs". */
    private static void signsInTheTree() {
        DisputeHalving x = new DisputeHalving();
        x.instruction(9, 0, 0, -1);
        x.batch(-1, MIN, 1, MAX, 0);
        CHECK.due("a cell of -1", x.node(0, 0, 16), Trees.mix(0L, -1L));
        CHECK.due("the lowest cell", x.node(0, 0, 17), Trees.mix(1L, -2147483648L));
        CHECK.due("the highest cell", x.node(0, 0, 19), Trees.mix(3L, 2147483647L));
        CHECK.due("a place of -1", x.truth(0, 1), Trees.mix(x.node(0, 1, 1), -1L));
        CHECK.holds("the sign is told", x.truth(0, 1) != Trees.mix(x.node(0, 1, 1), 0xffffffffL));
    }
}
