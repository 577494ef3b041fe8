/** MIX and THE TREE straight from the document's words, for tests to compare with. */
final class Trees {
    private Trees() {
    }

    static long mix(long x, long y) {
        long h = x * 0x9e3779b97f4a7c15L + y;
        h ^= h >>> 29;
        h *= 0xbf58476d1ce4e5b9L;
        return h ^ h >>> 32;
    }

    static long node(int[] cells, int i) {
        return i >= 16 ? mix(i - 16, cells[i - 16]) : mix(node(cells, 2 * i), node(cells, 2 * i + 1));
    }

    static long digest(int[] cells, int place) {
        return mix(node(cells, 1), place);
    }

    /** The NODE beside the way up of CELL k, level 0 beside its leaf. */
    static long beside(int[] cells, int k, int level) {
        int onWay = 16 + k >> level;
        return node(cells, onWay % 2 == 0 ? onWay + 1 : onWay - 1);
    }

    /** Puts CELL k of these on the PAPER as it is. */
    static int show(DisputeHalving x, int[] cells, int k) {
        return x.cell(k, cells[k], beside(cells, k, 0), beside(cells, k, 1), beside(cells, k, 2), beside(cells, k, 3));
    }
}
