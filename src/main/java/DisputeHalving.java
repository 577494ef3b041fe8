/**
 * Batches of steps that are claimed outside and disputed: claims by digests alone, disputes that
 * halve the steps until one is left, and a judge who does that one step from a few cells.
 *
 * The face only looks at arguments and hands the work on: Machine does steps, Paper is what a
 * step is judged by, Court keeps claims, disputes, clocks and purses.
 */
public final class DisputeHalving {
    public static final int NONE = -1;

    private static final int CELLS = 16;
    private static final int ROOT = 1;
    private static final int LEAVES = 16;
    private static final int LEVELS = 4;
    private static final int LOWEST_FOUR_BITS = 15;

    private static final int OP_SET = 0;
    private static final int OP_ADD = 1;
    private static final int OP_SUBTRACT = 2;
    private static final int OP_MULTIPLY = 3;
    private static final int OP_XOR = 4;
    private static final int OP_TURN = 5;
    private static final int OP_LESS = 6;
    private static final int OP_FETCH = 7;
    private static final int OP_STORE = 8;
    private static final int OP_JUMP = 9;

    private static final int MOST_INSTRUCTIONS = 24;
    private static final int MOST_BATCHES = 8;
    private static final int GREATEST_POWER = 10;
    private static final int MOST_ON_PAPER = 4;
    private static final int MOST_TICKS_A_CALL = 200;

    private static final int PLAYERS = 8;
    private static final int MOST_CLAIMS = 40;
    private static final int MOST_DISPUTES = 80;
    private static final int MOST_OPEN_AT_A_CLAIM = 4;
    private static final int FIRST_PURSE = 1000;
    private static final int CLAIM_DEPOSIT = 100;
    private static final int DISPUTE_DEPOSIT = 50;
    private static final int TICKS_TO_ACCEPT = 40;
    private static final int TICKS_OF_A_SIDE = 30;

    private static final int OPEN = 0;
    private static final int CLAIM_ACCEPTED = 1;
    private static final int CLAIM_FALLEN = 2;
    private static final int CLAIMANT_WON = 1;
    private static final int DISPUTER_WON = 2;
    private static final int DROPPED = 3;

    private static final int TURN_TO_TELL = 0;
    private static final int TURN_TO_CHOOSE = 1;
    private static final int TURN_TO_PROVE = 2;

    private static final int GOOD = 0;
    private static final int WRONG_LOW = 1;
    private static final int WRONG_WAY_UP = 2;
    private static final int CELL_MISSING = 3;
    private static final int WRONG_HIGH = 4;

    private final Batch[] batches = new Batch[MOST_BATCHES];
    private int batchCount = 0;
    private Program draft = new Program();
    private final Machine machine = new Machine();
    private final Paper thePaper = new Paper();
    private final Court court = new Court();

    public DisputeHalving() {
    }

    public int instruction(int op, int a, int b, int c) {
        if (op < OP_SET || op > OP_JUMP || !isCell(a) || !isCell(b)) {
            return NONE;
        }
        return draft.append(new Instruction(op, a, b, c));
    }

    public int batch(int c0, int c1, int c2, int c3, int r) {
        if (draft.length == 0 || r < 0 || r > GREATEST_POWER || batchCount >= MOST_BATCHES) {
            return NONE;
        }
        Batch made = new Batch(draft, 1 << r);
        made.setFirst(c0, c1, c2, c3);
        batches[batchCount] = made;
        batchCount++;
        draft = new Program();
        return batchCount - 1;
    }

    public long truth(int batch, int s) {
        return reach(batch, s) ? machine.digestOfTree() : 0L;
    }

    public int state(int batch, int s, int what) {
        if (what < 0 || what > CELLS + 1 || !reach(batch, s)) {
            return 0;
        }
        if (what == CELLS) {
            return machine.place;
        }
        return what == CELLS + 1 ? machine.stepsDone : machine.cells[what];
    }

    public long node(int batch, int s, int i) {
        if (i < ROOT || i >= 2 * LEAVES || !reach(batch, s)) {
            return 0L;
        }
        machine.growTree();
        return machine.nodes[i];
    }

    public int claim(int player, int batch, long digest) {
        return batchAt(batch) == null ? NONE : court.openClaim(player, batch, digest);
    }

    public int dispute(int player, int claim) {
        Claim disputed = court.claimAt(claim);
        if (disputed == null) {
            return NONE;
        }
        Batch of = batchAt(disputed.batch);
        if (of == null) {
            return NONE;
        }
        machine.run(of, 0);
        return court.openDispute(player, disputed, machine.digestOfTree(), of.steps);
    }

    public int tell(int dispute, long digest) {
        Dispute told = court.disputeAt(dispute);
        if (told == null || told.turn() != TURN_TO_TELL) {
            return NONE;
        }
        told.takeMiddle(digest);
        return told.middle();
    }

    public int choose(int dispute, int other) {
        Dispute halved = court.disputeAt(dispute);
        if (halved == null || halved.turn() != TURN_TO_CHOOSE || other < 0 || other > 1) {
            return NONE;
        }
        halved.halve(other == 1);
        return halved.high - halved.low;
    }

    public int paper(int place, long node) {
        thePaper.begin(place, node);
        return 1;
    }

    public int cell(int k, int value, long one, long two, long three, long four) {
        if (!isCell(k) || thePaper.find(k) != null) {
            return NONE;
        }
        OnPaper added = thePaper.append(k, value);
        if (added == null) {
            return NONE;
        }
        added.setBeside(one, two, three, four);
        return thePaper.count;
    }

    public int prove(int dispute) {
        Dispute proved = court.disputeAt(dispute);
        if (proved == null || proved.turn() != TURN_TO_PROVE) {
            return NONE;
        }
        Batch of = batchAt(proved.claim.batch);
        if (of == null) {
            return NONE;
        }
        proved.answers++;
        if (thePaper.verdict(of.program, proved.lowDigest, proved.highDigest) == GOOD) {
            court.claimantWins(proved);
            return 1;
        }
        court.disputerWins(proved);
        return 0;
    }

    public int judge(int batch, long low, long high) {
        Batch of = batchAt(batch);
        return of == null ? NONE : thePaper.verdict(of.program, low, high);
    }

    public int write(int batch, int s) {
        Batch of = batchAt(batch);
        // the last STATE has no STEP behind it, so s ends one before what reach() takes
        if (of == null || s >= of.steps || !reach(batch, s)) {
            return NONE;
        }
        machine.growTree();
        thePaper.begin(machine.place, machine.nodes[ROOT]);
        int asked = machine.askedCells(of.program);
        for (int k = 0; k < CELLS; k++) {
            if ((asked >> k & 1) == 1) {
                copyToPaper(k);
            }
        }
        return thePaper.count;
    }

    public int tick(int n) {
        if (n < 0 || n > MOST_TICKS_A_CALL) {
            return NONE;
        }
        court.pass(n);
        return court.time;
    }

    public int ofClaim(int claim, int what) {
        Claim asked = court.claimAt(claim);
        if (asked == null) {
            return NONE;
        }
        switch (what) {
            case 0:
                return asked.player;
            case 1:
                return asked.batch;
            case 2:
                return asked.condition;
            case 3:
                return asked.openDisputes;
            case 4:
                return asked.ticksLeft(court.time);
            default:
                return NONE;
        }
    }

    public int ofDispute(int dispute, int what) {
        Dispute asked = court.disputeAt(dispute);
        if (asked == null) {
            return NONE;
        }
        switch (what) {
            case 0:
                return asked.player;
            case 1:
                return asked.claim.number;
            case 2:
                return asked.condition;
            case 3:
                return asked.low;
            case 4:
                return asked.high;
            case 5:
                return asked.turn();
            case 6:
                return asked.claimantTicks;
            case 7:
                return asked.disputerTicks;
            case 8:
                return asked.answers;
            default:
                return NONE;
        }
    }

    public long digest(int dispute, int what) {
        Dispute asked = court.disputeAt(dispute);
        if (asked == null) {
            return 0L;
        }
        switch (what) {
            case 0:
                return asked.lowDigest;
            case 1:
                return asked.highDigest;
            case 2:
                return asked.isTold ? asked.middleDigest : 0L;
            default:
                return 0L;
        }
    }

    public int purse(int player) {
        return isPlayer(player) ? court.purses[player] : NONE;
    }

    public int sum() {
        return court.total();
    }

    public int clear() {
        int before = court.claimCount;
        court.restart();
        return before;
    }

    private static boolean isCell(int k) {
        return k >= 0 && k < CELLS;
    }

    private static boolean isPlayer(int player) {
        return player >= 0 && player < PLAYERS;
    }

    private static long mix(long x, long y) {
        long h = x * 0x9e3779b97f4a7c15L + y;
        h = h ^ (h >>> 29);
        h = h * 0xbf58476d1ce4e5b9L;
        return h ^ (h >>> 32);
    }

    private Batch batchAt(int number) {
        return number >= 0 && number < batchCount ? batches[number] : null;
    }

    /** Brings the machine to a BATCH's STATE behind s STEPS; false if there is none such. */
    private boolean reach(int batch, int s) {
        Batch of = batchAt(batch);
        if (of == null || s < 0 || s > of.steps) {
            return false;
        }
        machine.run(of, s);
        return true;
    }

    private void copyToPaper(int k) {
        OnPaper added = thePaper.append(k, machine.cells[k]);
        if (added != null) {
            int leaf = LEAVES + k;
            long[] nodes = machine.nodes;
            added.setBeside(nodes[leaf ^ 1], nodes[leaf >> 1 ^ 1], nodes[leaf >> 2 ^ 1], nodes[leaf >> 3 ^ 1]);
        }
    }

    /**
     * One INSTRUCTION. What it does is told by the values it asks for alone, so that the machine,
     * which has every CELL, and the judge, who has a few, go by the same lines.
     */
    private static final class Instruction {
        private final int op;
        private final int a;
        private final int b;
        private final int c;

        Instruction(int op, int a, int b, int c) {
            this.op = op;
            this.a = a;
            this.b = b;
            this.c = c;
        }

        boolean asksForB() {
            return op != OP_SET && op != OP_TURN && op != OP_JUMP;
        }

        /** The CELL that A or B tells; a itself where neither tells one. */
        int toldCell(int valueA, int valueB) {
            if (op == OP_FETCH) {
                return valueB & LOWEST_FOUR_BITS;
            }
            return op == OP_STORE ? valueA & LOWEST_FOUR_BITS : a;
        }

        boolean writes() {
            return op != OP_JUMP;
        }

        int result(int valueA, int valueB, int valueTold) {
            switch (op) {
                case OP_SET:
                    return c;
                case OP_ADD:
                    return valueA + valueB;
                case OP_SUBTRACT:
                    return valueA - valueB;
                case OP_MULTIPLY:
                    return valueA * valueB;
                case OP_XOR:
                    return valueA ^ valueB;
                case OP_TURN:
                    // a shift takes the lowest 5 bits of its distance by itself
                    return valueA << c | valueA >>> -c;
                case OP_LESS:
                    return valueA < valueB ? 1 : 0;
                case OP_FETCH:
                    return valueTold;
                case OP_STORE:
                    return valueB;
                default:
                    return valueA;
            }
        }

        int placeBehind(int place, int valueA) {
            return op == OP_JUMP && valueA != 0 ? c : place + 1;
        }
    }

    private static final class Program {
        private final Instruction[] lines = new Instruction[MOST_INSTRUCTIONS];
        private int length = 0;

        int append(Instruction line) {
            if (length >= MOST_INSTRUCTIONS) {
                return NONE;
            }
            lines[length] = line;
            length++;
            return length;
        }

        Instruction lineAt(int place) {
            return place >= 0 && place < length ? lines[place] : null;
        }
    }

    private static final class Batch {
        private final Program program;
        private final int steps;
        private final int[] first = new int[4];

        Batch(Program program, int steps) {
            this.program = program;
            this.steps = steps;
        }

        void setFirst(int c0, int c1, int c2, int c3) {
            first[0] = c0;
            first[1] = c1;
            first[2] = c2;
            first[3] = c3;
        }
    }

    /** One STATE with its TREE; every call that asks for a STATE uses it anew. */
    private static final class Machine {
        private final int[] cells = new int[CELLS];
        private final long[] nodes = new long[2 * LEAVES];
        private int place = 0;
        private int stepsDone = 0;

        void run(Batch batch, int steps) {
            begin(batch.first);
            for (int i = 0; i < steps; i++) {
                Instruction line = batch.program.lineAt(place);
                if (line == null) {
                    // nothing changes from here on, so the STEPS that are left need not be done
                    return;
                }
                doStep(line);
            }
        }

        private void begin(int[] first) {
            for (int k = 0; k < CELLS; k++) {
                cells[k] = k < first.length ? first[k] : 0;
            }
            place = 0;
            stepsDone = 0;
        }

        private void doStep(Instruction line) {
            int valueA = cells[line.a];
            int valueB = cells[line.b];
            int told = line.toldCell(valueA, valueB);
            if (line.writes()) {
                int target = line.op == OP_STORE ? told : line.a;
                cells[target] = line.result(valueA, valueB, cells[told]);
            }
            place = line.placeBehind(place, valueA);
            stepsDone++;
        }

        void growTree() {
            for (int k = 0; k < CELLS; k++) {
                nodes[LEAVES + k] = mix(k, cells[k]);
            }
            for (int i = LEAVES - 1; i >= ROOT; i--) {
                nodes[i] = mix(nodes[2 * i], nodes[2 * i + 1]);
            }
        }

        long digestOfTree() {
            growTree();
            return mix(nodes[ROOT], place);
        }

        /** The CELLS that the next STEP asks for or writes, bit k for CELL k. */
        int askedCells(Program program) {
            Instruction line = program.lineAt(place);
            if (line == null) {
                return 0;
            }
            int asked = 1 << line.a | 1 << line.toldCell(cells[line.a], cells[line.b]);
            return line.asksForB() ? asked | 1 << line.b : asked;
        }
    }

    /** A CELL on THE PAPER with the NODES beside its way up. */
    private static final class OnPaper {
        private int number = 0;
        private int value = 0;
        private final long[] beside = new long[LEVELS];

        void setBeside(long one, long two, long three, long four) {
            beside[0] = one;
            beside[1] = two;
            beside[2] = three;
            beside[3] = four;
        }

        /** NODE 1 as the way up makes it, if the CELL has this value. */
        long rootWith(int content) {
            int at = LEAVES + number;
            long node = mix(number, content);
            for (int level = 0; level < LEVELS; level++) {
                boolean isLeft = (at & 1) == 0;
                node = isLeft ? mix(node, beside[level]) : mix(beside[level], node);
                at = at >> 1;
            }
            return node;
        }
    }

    private static final class Paper {
        private int place = 0;
        private long root = 0L;
        private int count = 0;
        private final OnPaper[] shown = new OnPaper[MOST_ON_PAPER];

        Paper() {
            for (int i = 0; i < MOST_ON_PAPER; i++) {
                shown[i] = new OnPaper();
            }
        }

        void begin(int atPlace, long nodeOne) {
            place = atPlace;
            root = nodeOne;
            count = 0;
        }

        OnPaper append(int number, int value) {
            OnPaper added = count < MOST_ON_PAPER ? shown[count] : null;
            if (added == null) {
                return null;
            }
            added.number = number;
            added.value = value;
            count++;
            return added;
        }

        OnPaper find(int number) {
            for (int i = 0; i < count; i++) {
                OnPaper one = shown[i];
                if (one != null && one.number == number) {
                    return one;
                }
            }
            return null;
        }

        /** GOOD, or the first reason why it is not. */
        int verdict(Program program, long low, long high) {
            if (mix(root, place) != low) {
                return WRONG_LOW;
            }
            if (!allWaysEndAtRoot()) {
                return WRONG_WAY_UP;
            }
            Instruction line = program.lineAt(place);
            if (line == null) {
                return low == high ? GOOD : WRONG_HIGH;
            }
            OnPaper cellA = find(line.a);
            OnPaper cellB = line.asksForB() ? find(line.b) : cellA;
            if (cellA == null || cellB == null) {
                return CELL_MISSING;
            }
            OnPaper told = find(line.toldCell(cellA.value, cellB.value));
            if (told == null) {
                return CELL_MISSING;
            }
            long behind = mix(rootBehind(line, cellA, cellB, told), line.placeBehind(place, cellA.value));
            return behind == high ? GOOD : WRONG_HIGH;
        }

        private boolean allWaysEndAtRoot() {
            for (int i = 0; i < count; i++) {
                OnPaper one = shown[i];
                if (one == null || one.rootWith(one.value) != root) {
                    return false;
                }
            }
            return true;
        }

        private long rootBehind(Instruction line, OnPaper cellA, OnPaper cellB, OnPaper told) {
            if (!line.writes()) {
                return root;
            }
            OnPaper target = line.op == OP_STORE ? told : cellA;
            return target.rootWith(line.result(cellA.value, cellB.value, told.value));
        }
    }

    private static final class Claim {
        private final int number;
        private final int player;
        private final int batch;
        private final long digest;
        private int condition = OPEN;
        private int openDisputes = 0;
        /** When it was made or, later, when a DISPUTE of it last ended. */
        private int quietSince;

        Claim(int number, int player, int batch, long digest, int time) {
            this.number = number;
            this.player = player;
            this.batch = batch;
            this.digest = digest;
            this.quietSince = time;
        }

        int ticksLeft(int time) {
            if (condition != OPEN) {
                return 0;
            }
            return openDisputes > 0 ? TICKS_TO_ACCEPT : quietSince + TICKS_TO_ACCEPT - time;
        }
    }

    private static final class Dispute {
        private final int player;
        private final Claim claim;
        private int condition = OPEN;
        private int low = 0;
        private int high;
        private long lowDigest;
        private long highDigest;
        private boolean isTold = false;
        private long middleDigest = 0L;
        private int claimantTicks = 0;
        private int disputerTicks = 0;
        private int answers = 0;

        Dispute(int player, Claim claim, long firstDigest, int steps) {
            this.player = player;
            this.claim = claim;
            this.high = steps;
            this.lowDigest = firstDigest;
            this.highDigest = claim.digest;
        }

        int turn() {
            if (condition != OPEN) {
                return NONE;
            }
            if (high == low + 1) {
                return TURN_TO_PROVE;
            }
            return isTold ? TURN_TO_CHOOSE : TURN_TO_TELL;
        }

        int middle() {
            return (low + high) / 2;
        }

        void takeMiddle(long digest) {
            isTold = true;
            middleDigest = digest;
            answers++;
        }

        void halve(boolean isOther) {
            if (isOther) {
                high = middle();
                highDigest = middleDigest;
            } else {
                low = middle();
                lowDigest = middleDigest;
            }
            isTold = false;
            answers++;
        }

        void countForTurn() {
            if (turn() == TURN_TO_CHOOSE) {
                disputerTicks++;
            } else {
                claimantTicks++;
            }
        }
    }

    /** CLAIMS and DISPUTES with their clocks and deposits, and the PURSES. */
    private static final class Court {
        private final int[] purses = new int[PLAYERS];
        private final Claim[] claims = new Claim[MOST_CLAIMS];
        private int claimCount = 0;
        private int openClaims = 0;
        private final Dispute[] disputes = new Dispute[MOST_DISPUTES];
        private int disputeCount = 0;
        private int time = 0;

        Court() {
            restart();
        }

        void restart() {
            for (int i = 0; i < PLAYERS; i++) {
                purses[i] = FIRST_PURSE;
            }
            claimCount = 0;
            openClaims = 0;
            disputeCount = 0;
            time = 0;
        }

        Claim claimAt(int number) {
            return number >= 0 && number < claimCount ? claims[number] : null;
        }

        Dispute disputeAt(int number) {
            return number >= 0 && number < disputeCount ? disputes[number] : null;
        }

        private Dispute openDisputeAt(int number) {
            Dispute dispute = disputeAt(number);
            return dispute != null && dispute.condition == OPEN ? dispute : null;
        }

        int openClaim(int player, int batch, long digest) {
            if (!isPlayer(player) || purses[player] < CLAIM_DEPOSIT || claimCount >= MOST_CLAIMS) {
                return NONE;
            }
            pay(player, -CLAIM_DEPOSIT);
            claims[claimCount] = new Claim(claimCount, player, batch, digest, time);
            claimCount++;
            openClaims++;
            return claimCount - 1;
        }

        private boolean mayDispute(int player, Claim claim) {
            return isPlayer(player) && purses[player] >= DISPUTE_DEPOSIT && disputeCount < MOST_DISPUTES
                    && claim.condition == OPEN && claim.player != player
                    && claim.openDisputes < MOST_OPEN_AT_A_CLAIM;
        }

        int openDispute(int player, Claim claim, long firstDigest, int steps) {
            if (!mayDispute(player, claim)) {
                return NONE;
            }
            pay(player, -DISPUTE_DEPOSIT);
            disputes[disputeCount] = new Dispute(player, claim, firstDigest, steps);
            disputeCount++;
            claim.openDisputes++;
            return disputeCount - 1;
        }

        void claimantWins(Dispute ended) {
            ended.condition = CLAIMANT_WON;
            ended.claim.openDisputes--;
            ended.claim.quietSince = time;
            pay(ended.claim.player, DISPUTE_DEPOSIT);
        }

        void disputerWins(Dispute ended) {
            ended.condition = DISPUTER_WON;
            pay(ended.player, CLAIM_DEPOSIT + DISPUTE_DEPOSIT);
            ended.claim.condition = CLAIM_FALLEN;
            openClaims--;
            dropOpenDisputes(ended.claim);
        }

        private void dropOpenDisputes(Claim fallen) {
            for (int i = 0; i < disputeCount; i++) {
                Dispute dispute = openDisputeAt(i);
                if (dispute != null && dispute.claim.number == fallen.number) {
                    dispute.condition = DROPPED;
                    pay(dispute.player, DISPUTE_DEPOSIT);
                }
            }
            fallen.openDisputes = 0;
        }

        private void pay(int player, int amount) {
            if (isPlayer(player)) {
                purses[player] += amount;
            }
        }

        void pass(int ticks) {
            int end = time + ticks;
            // where no CLAIM is OPEN no DISPUTE is either: the rest of the TICKS moves time alone
            for (int i = 0; i < ticks && openClaims > 0; i++) {
                time++;
                countForDisputes();
                acceptQuietClaims();
            }
            time = end;
        }

        private void countForDisputes() {
            for (int i = 0; i < disputeCount; i++) {
                Dispute dispute = openDisputeAt(i);
                if (dispute != null) {
                    dispute.countForTurn();
                    if (dispute.claimantTicks >= TICKS_OF_A_SIDE) {
                        disputerWins(dispute);
                    } else if (dispute.disputerTicks >= TICKS_OF_A_SIDE) {
                        claimantWins(dispute);
                    }
                }
            }
        }

        private void acceptQuietClaims() {
            for (int i = 0; i < claimCount; i++) {
                Claim claim = claimAt(i);
                if (claim != null && claim.condition == OPEN && claim.ticksLeft(time) <= 0) {
                    claim.condition = CLAIM_ACCEPTED;
                    openClaims--;
                    pay(claim.player, CLAIM_DEPOSIT);
                }
            }
        }

        int total() {
            int all = openClaims * CLAIM_DEPOSIT;
            for (int i = 0; i < PLAYERS; i++) {
                all += purses[i];
            }
            for (int i = 0; i < disputeCount; i++) {
                all += openDisputeAt(i) != null ? DISPUTE_DEPOSIT : 0;
            }
            return all;
        }
    }
}
