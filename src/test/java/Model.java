import java.util.ArrayList;
import java.util.Arrays;
import java.util.List;
import java.util.Map;
import java.util.TreeMap;

/**
 * The document a second time, as plainly as Java's library allows and by other ways than the class:
 * every STATE is kept, numbers are counted anew whenever they are asked for, time goes TICK by TICK.
 */
final class Model {
    private static final int NONE = -1;

    private static final class State {
        int place = 0;
        int done = 0;
        int[] cells = new int[16];

        long root() {
            return Trees.node(cells, 1);
        }

        long digest() {
            return Trees.mix(root(), place);
        }
    }

    private static final class Batch {
        List<int[]> program;
        List<State> states = new ArrayList<>();

        int steps() {
            return states.size() - 1;
        }
    }

    private static final class Claim {
        int player;
        int batch;
        long digest;
        int condition = 0;
        int made;
    }

    private static final class Dispute {
        int player;
        int claim;
        int condition = 0;
        int[] ends = new int[2];
        long[] digests = new long[2];
        Long told = null;
        int[] ticks = new int[2];
        int answers = 0;
        int ended = 0;
    }

    private List<int[]> draft = new ArrayList<>();
    private final List<Batch> batches = new ArrayList<>();
    private final List<Claim> claims = new ArrayList<>();
    private final List<Dispute> disputes = new ArrayList<>();
    private final int[] purses = new int[8];
    private int time = 0;
    private int paperPlace = 0;
    private long paperRoot = 0;
    private Map<Integer, Integer> paperValues = new TreeMap<>();
    private final Map<Integer, long[]> paperBeside = new TreeMap<>();

    Model() {
        Arrays.fill(purses, 1000);
    }

    private static boolean has(List<?> list, int number) {
        return number >= 0 && number < list.size();
    }

    int instruction(int op, int a, int b, int c) {
        if (op < 0 || op > 9 || a < 0 || a > 15 || b < 0 || b > 15 || draft.size() == 24) {
            return NONE;
        }
        draft.add(new int[] {op, a, b, c});
        return draft.size();
    }

    int batch(int c0, int c1, int c2, int c3, int r) {
        if (draft.isEmpty() || r < 0 || r > 10 || batches.size() == 8) {
            return NONE;
        }
        Batch made = new Batch();
        made.program = draft;
        draft = new ArrayList<>();
        State now = new State();
        now.cells = new int[] {c0, c1, c2, c3, 0, 0, 0, 0, 0, 0, 0, 0, 0, 0, 0, 0};
        made.states.add(now);
        for (int i = 0; i < Math.pow(2, r); i++) {
            now = behind(made.program, now);
            made.states.add(now);
        }
        batches.add(made);
        return batches.size() - 1;
    }

    private static State behind(List<int[]> program, State before) {
        State after = new State();
        after.cells = before.cells.clone();
        after.place = before.place;
        after.done = before.done;
        if (!has(program, before.place)) {
            return after;
        }
        int[] line = program.get(before.place);
        int valueA = before.cells[line[1]];
        int valueB = before.cells[line[2]];
        after.done++;
        after.place++;
        switch (line[0]) {
            case 0 -> after.cells[line[1]] = line[3];
            case 1 -> after.cells[line[1]] += valueB;
            case 2 -> after.cells[line[1]] -= valueB;
            case 3 -> after.cells[line[1]] *= valueB;
            case 4 -> after.cells[line[1]] ^= valueB;
            case 5 -> after.cells[line[1]] = Integer.rotateLeft(valueA, line[3] & 31);
            case 6 -> after.cells[line[1]] = Integer.compare(valueA, valueB) < 0 ? 1 : 0;
            case 7 -> after.cells[line[1]] = before.cells[Math.floorMod(valueB, 16)];
            case 8 -> after.cells[Math.floorMod(valueA, 16)] = valueB;
            default -> after.place = valueA == 0 ? after.place : line[3];
        }
        return after;
    }

    private State at(int batch, int s) {
        return has(batches, batch) && has(batches.get(batch).states, s) ? batches.get(batch).states.get(s) : null;
    }

    long truth(int batch, int s) {
        State at = at(batch, s);
        return at == null ? 0 : at.digest();
    }

    int state(int batch, int s, int what) {
        State at = at(batch, s);
        if (at == null || what < 0 || what > 17) {
            return 0;
        }
        return what == 17 ? at.done : what == 16 ? at.place : at.cells[what];
    }

    long node(int batch, int s, int i) {
        State at = at(batch, s);
        return at == null || i < 1 || i > 31 ? 0 : Trees.node(at.cells, i);
    }

    int claim(int player, int batch, long digest) {
        if (player < 0 || player > 7 || !has(batches, batch) || purses[player] < 100 || claims.size() == 40) {
            return NONE;
        }
        purses[player] -= 100;
        Claim made = new Claim();
        made.player = player;
        made.batch = batch;
        made.digest = digest;
        made.made = time;
        claims.add(made);
        return claims.size() - 1;
    }

    private int openAt(int claim) {
        return (int) disputes.stream().filter(d -> d.claim == claim && d.condition == 0).count();
    }

    int dispute(int player, int claim) {
        if (player < 0 || player > 7 || !has(claims, claim) || disputes.size() == 80 || purses[player] < 50) {
            return NONE;
        }
        Claim of = claims.get(claim);
        if (of.condition != 0 || of.player == player || openAt(claim) == 4) {
            return NONE;
        }
        purses[player] -= 50;
        Dispute made = new Dispute();
        made.player = player;
        made.claim = claim;
        made.ends[1] = batches.get(of.batch).steps();
        made.digests[0] = truth(of.batch, 0);
        made.digests[1] = of.digest;
        disputes.add(made);
        return disputes.size() - 1;
    }

    private int turn(int dispute) {
        if (!has(disputes, dispute) || disputes.get(dispute).condition != 0) {
            return NONE;
        }
        Dispute d = disputes.get(dispute);
        return d.ends[1] - d.ends[0] == 1 ? 2 : d.told == null ? 0 : 1;
    }

    int tell(int dispute, long digest) {
        if (turn(dispute) != 0) {
            return NONE;
        }
        Dispute d = disputes.get(dispute);
        d.told = digest;
        d.answers++;
        return (d.ends[0] + d.ends[1]) / 2;
    }

    int choose(int dispute, int other) {
        if (turn(dispute) != 1 || other != 0 && other != 1) {
            return NONE;
        }
        Dispute d = disputes.get(dispute);
        d.ends[other] = (d.ends[0] + d.ends[1]) / 2;
        d.digests[other] = d.told;
        d.told = null;
        d.answers++;
        return d.ends[1] - d.ends[0];
    }

    int paper(int place, long node) {
        paperPlace = place;
        paperRoot = node;
        paperValues.clear();
        paperBeside.clear();
        return 1;
    }

    int cell(int k, int value, long one, long two, long three, long four) {
        if (k < 0 || k > 15 || paperValues.containsKey(k) || paperValues.size() == 4) {
            return NONE;
        }
        paperValues.put(k, value);
        paperBeside.put(k, new long[] {one, two, three, four});
        return paperValues.size();
    }

    private static long up(int k, int value, long[] beside) {
        long node = Trees.mix(k, value);
        for (int level = 0; level < 4; level++) {
            boolean isRight = (k >> level) % 2 == 1;
            node = isRight ? Trees.mix(beside[level], node) : Trees.mix(node, beside[level]);
        }
        return node;
    }

    int judge(int batch, long low, long high) {
        if (!has(batches, batch)) {
            return NONE;
        }
        List<int[]> program = batches.get(batch).program;
        if (Trees.mix(paperRoot, paperPlace) != low) {
            return 1;
        }
        for (int k : paperValues.keySet()) {
            if (up(k, paperValues.get(k), paperBeside.get(k)) != paperRoot) {
                return 2;
            }
        }
        State seen = new State();
        seen.place = paperPlace;
        paperValues.forEach((k, value) -> seen.cells[k] = value);
        // a CELL that is not there counts as 0: whatever that makes asked for, the CELL itself is missing
        if (!paperValues.keySet().containsAll(asked(program, seen))) {
            return 3;
        }
        State after = behind(program, seen);
        long root = paperRoot;
        for (int k : paperValues.keySet()) {
            if (after.cells[k] != seen.cells[k]) {
                root = up(k, after.cells[k], paperBeside.get(k));
            }
        }
        return Trees.mix(root, after.place) == high ? 0 : 4;
    }

    private static List<Integer> asked(List<int[]> program, State at) {
        if (!has(program, at.place)) {
            return List.of();
        }
        int[] line = program.get(at.place);
        return switch (line[0]) {
            case 0, 5, 9 -> List.of(line[1]);
            case 7 -> List.of(line[1], line[2], Math.floorMod(at.cells[line[2]], 16));
            case 8 -> List.of(line[1], line[2], Math.floorMod(at.cells[line[1]], 16));
            default -> List.of(line[1], line[2]);
        };
    }

    int write(int batch, int s) {
        State at = at(batch, s);
        if (at == null || s == batches.get(batch).steps()) {
            return NONE;
        }
        paper(at.place, at.root());
        for (int k : asked(batches.get(batch).program, at)) {
            long[] beside = new long[4];
            for (int level = 0; level < 4; level++) {
                beside[level] = Trees.beside(at.cells, k, level);
            }
            cell(k, at.cells[k], beside[0], beside[1], beside[2], beside[3]);
        }
        return paperValues.size();
    }

    int prove(int dispute) {
        if (turn(dispute) != 2) {
            return NONE;
        }
        Dispute d = disputes.get(dispute);
        d.answers++;
        boolean isGood = judge(claims.get(d.claim).batch, d.digests[0], d.digests[1]) == 0;
        end(d, isGood);
        return isGood ? 1 : 0;
    }

    private void end(Dispute d, boolean claimantWon) {
        Claim of = claims.get(d.claim);
        d.ended = time;
        d.condition = claimantWon ? 1 : 2;
        if (claimantWon) {
            purses[of.player] += 50;
            return;
        }
        purses[d.player] += 150;
        of.condition = 2;
        for (Dispute other : disputes) {
            if (other.claim == d.claim && other.condition == 0) {
                other.condition = 3;
                purses[other.player] += 50;
            }
        }
    }

    int tick(int n) {
        if (n < 0 || n > 200) {
            return NONE;
        }
        for (int i = 0; i < n; i++) {
            time++;
            for (int dispute = 0; dispute < disputes.size(); dispute++) {
                int turn = turn(dispute);
                if (turn != NONE) {
                    int side = turn == 1 ? 1 : 0;
                    if (++disputes.get(dispute).ticks[side] == 30) {
                        end(disputes.get(dispute), side == 1);
                    }
                }
            }
            for (int claim = 0; claim < claims.size(); claim++) {
                if (claims.get(claim).condition == 0 && left(claim) == 0) {
                    claims.get(claim).condition = 1;
                    purses[claims.get(claim).player] += 100;
                }
            }
        }
        return time;
    }

    private int left(int claim) {
        int from = claims.get(claim).made;
        for (Dispute d : disputes) {
            if (d.claim == claim) {
                from = Math.max(from, d.condition == 0 ? time : d.ended);
            }
        }
        return from + 40 - time;
    }

    int ofClaim(int claim, int what) {
        if (!has(claims, claim)) {
            return NONE;
        }
        Claim c = claims.get(claim);
        return switch (what) {
            case 0 -> c.player;
            case 1 -> c.batch;
            case 2 -> c.condition;
            case 3 -> openAt(claim);
            case 4 -> c.condition == 0 ? left(claim) : 0;
            default -> NONE;
        };
    }

    int ofDispute(int dispute, int what) {
        if (!has(disputes, dispute)) {
            return NONE;
        }
        Dispute d = disputes.get(dispute);
        return switch (what) {
            case 0 -> d.player;
            case 1 -> d.claim;
            case 2 -> d.condition;
            case 3, 4 -> d.ends[what - 3];
            case 5 -> turn(dispute);
            case 6, 7 -> d.ticks[what - 6];
            case 8 -> d.answers;
            default -> NONE;
        };
    }

    long digest(int dispute, int what) {
        if (!has(disputes, dispute) || what < 0 || what > 2) {
            return 0;
        }
        Dispute d = disputes.get(dispute);
        if (what == 2) {
            return d.told == null ? 0 : d.told;
        }
        return d.digests[what];
    }

    int purse(int player) {
        return player < 0 || player > 7 ? NONE : purses[player];
    }

    int sum() {
        return Arrays.stream(purses).sum()
                + 100 * (int) claims.stream().filter(c -> c.condition == 0).count()
                + 50 * (int) disputes.stream().filter(d -> d.condition == 0).count();
    }

    int clear() {
        int before = claims.size();
        claims.clear();
        disputes.clear();
        Arrays.fill(purses, 1000);
        time = 0;
        return before;
    }
}
