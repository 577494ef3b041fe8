/** The boundary cases that promises 7, 8, 17 and 20 to 22 name: claim, dispute, ofClaim, purse, sum, clear. */
public final class EdgesOfClaimsTest {
    private static final int NONE = DisputeHalving.NONE;
    private static final int MIN = Integer.MIN_VALUE;
    private static final int MAX = Integer.MAX_VALUE;
    private static final Check CHECK = new Check("EdgesOfClaimsTest");
    private static final Stays STAYS = new Stays(CHECK);

    public static void main(String[] args) {
        claimPlayer();
        claimBatch();
        claimPurse();
        claimForty();
        claimTakesEveryDigest();
        disputePlayer();
        disputeClaim();
        disputeOfAnAcceptedOne();
        disputeOfAFallenOne();
        disputeByItsClaimant();
        disputeFourOpen();
        disputePurse();
        disputeEighty();
        ofClaimNumber();
        ofClaimWhat();
        ofClaimTicks();
        ofClaimTicksWithOpenDisputes();
        acceptedBehindForty();
        acceptedBehindTheLatestEnd();
        notAcceptedWhileOneIsOpen();
        pursePlayer();
        sumOfAllDeposits();
        clearForgets();
        clearLeaves();
        clearOfAFullObject();
        CHECK.end();
    }

    /** Promise 7: "NONE: no PLAYER". */
    private static void claimPlayer() {
        STAYS.behind("claim: no player", Scenes::busy, NONE,
                x -> x.claim(-1, 0, 1), x -> x.claim(8, 0, 1), x -> x.claim(MIN, 0, 1), x -> x.claim(MAX, 0, 1));
        DisputeHalving x = Scenes.withAdder(0);
        CHECK.due("claim by player 0", x.claim(0, 0, 1), 0);
        CHECK.due("claim by player 7", x.claim(7, 0, 1), 1);
        CHECK.due("purse 0", x.purse(0), 900);
        CHECK.due("purse 7", x.purse(7), 900);
    }

    /** Promise 7: "NONE: .. no BATCH". */
    private static void claimBatch() {
        STAYS.behind("claim: no batch", Scenes::busy, NONE,
                x -> x.claim(7, -1, 1), x -> x.claim(7, 2, 1), x -> x.claim(7, 8, 1), x -> x.claim(7, MIN, 1),
                x -> x.claim(7, MAX, 1));
        DisputeHalving x = new DisputeHalving();
        for (int i = 0; i < 8; i++) {
            Scenes.adder(x, 0);
        }
        CHECK.due("claim of batch 8", x.claim(0, 8, 1), NONE);
        CHECK.due("claim of batch 0", x.claim(0, 0, 1), 0);
        CHECK.due("claim of batch 7", x.claim(0, 7, 1), 1);
        CHECK.due("its batch", x.ofClaim(1, 1), 7);
    }

    /** PLAYER 0 with this much left: CLAIMS take hundreds, a DISPUTE of PLAYER 1's CLAIM 0 takes fifty. */
    private static DisputeHalving withPurse(int left) {
        DisputeHalving x = Scenes.withAdder(1);
        x.claim(1, 0, 1);
        if (left % 100 != 0) {
            x.dispute(0, 0);
        }
        while (x.purse(0) > left) {
            x.claim(0, 0, 1);
        }
        CHECK.due("purse that is left", x.purse(0), left);
        return x;
    }

    /** Promise 7: "NONE: .. PURSE below 100". PURSES go by fifties: 50 is the highest below. */
    private static void claimPurse() {
        STAYS.behind("claim: purse 50", () -> withPurse(50), NONE, x -> x.claim(0, 0, 1));
        STAYS.behind("claim: purse 0", () -> withPurse(0), NONE, x -> x.claim(0, 0, 1));
        DisputeHalving x = withPurse(100);
        CHECK.due("claim with 100", x.claim(0, 0, 1), 10);
        CHECK.due("nothing is left", x.purse(0), 0);
        DisputeHalving y = withPurse(150);
        CHECK.due("claim with 150", y.claim(0, 0, 1), 9);
        CHECK.due("50 are left", y.purse(0), 50);
    }

    /** Promise 7: "NONE: .. there are 40". */
    private static void claimForty() {
        STAYS.behind("claim: there are 40", Scenes::fortyClaims, NONE,
                x -> x.claim(0, 0, 1), x -> x.claim(7, 0, 1));
        DisputeHalving x = Scenes.withAdder(1);
        for (int i = 0; i < 40; i++) {
            CHECK.due("claim " + i, x.claim(i % 8, 0, 7), i);
        }
        CHECK.due("the 41st", x.claim(0, 0, 7), NONE);
        x.tick(40);
        CHECK.due("all are accepted", x.sum() - x.purse(0), 7000);
        CHECK.due("accepted ones count too", x.claim(0, 0, 7), NONE);
        CHECK.due("no claim 40", x.ofClaim(40, 0), NONE);
        CHECK.due("clear", x.clear(), 40);
        CHECK.due("the first again", x.claim(0, 0, 7), 0);
    }

    /** Promise 7 refuses no DIGEST. */
    private static void claimTakesEveryDigest() {
        long[] every = {0, -1, 1, Long.MIN_VALUE, Long.MAX_VALUE};
        DisputeHalving x = Scenes.withAdder(1);
        for (int i = 0; i < every.length; i++) {
            CHECK.due("claim with " + every[i], x.claim(0, 0, every[i]), i);
            CHECK.due("dispute", x.dispute(1, i), i);
            CHECK.due("its digest", x.digest(i, 1), every[i]);
        }
    }

    /** Promise 8: "NONE: no PLAYER". */
    private static void disputePlayer() {
        STAYS.behind("dispute: no player", Scenes::busy, NONE,
                x -> x.dispute(-1, 0), x -> x.dispute(8, 0), x -> x.dispute(MIN, 0), x -> x.dispute(MAX, 0));
        DisputeHalving x = Scenes.withAdder(0);
        x.claim(3, 0, 1);
        CHECK.due("dispute by player 0", x.dispute(0, 0), 0);
        CHECK.due("dispute by player 7", x.dispute(7, 0), 1);
        CHECK.due("purse 0", x.purse(0), 950);
        CHECK.due("purse 7", x.purse(7), 950);
    }

    /** Promise 8: "NONE: .. no CLAIM". */
    private static void disputeClaim() {
        STAYS.behind("dispute: no claim", Scenes::busy, NONE,
                x -> x.dispute(7, -1), x -> x.dispute(7, 3), x -> x.dispute(7, 40), x -> x.dispute(7, MIN),
                x -> x.dispute(7, MAX));
        STAYS.behind("dispute: no claim 40", Scenes::fortyClaims, NONE, x -> x.dispute(7, 40));
        DisputeHalving x = Scenes.fortyClaims();
        CHECK.due("dispute of claim 0", x.dispute(1, 0), 0);
        CHECK.due("dispute of claim 39", x.dispute(0, 39), 1);
        CHECK.due("its claim", x.ofDispute(1, 1), 39);
    }

    /** CLAIM 0 by PLAYER 0, these many TICKS old. */
    private static DisputeHalving claimOfAge(int ticks) {
        DisputeHalving x = Scenes.withAdder(1);
        x.claim(0, 0, 1);
        x.tick(ticks);
        return x;
    }

    /** Promise 8: "NONE: .. not OPEN": ACCEPTED with the 40th TICK. */
    private static void disputeOfAnAcceptedOne() {
        STAYS.behind("dispute: accepted", () -> claimOfAge(40), NONE, x -> x.dispute(1, 0), x -> x.dispute(7, 0));
        CHECK.due("dispute behind 39 ticks", claimOfAge(39).dispute(1, 0), 0);
    }

    /** Promise 8: "NONE: .. not OPEN": FALLEN. */
    private static void disputeOfAFallenOne() {
        STAYS.behind("dispute: fallen", Scenes::fallen, NONE, x -> x.dispute(3, 0), x -> x.dispute(1, 0));
        CHECK.due("fallen", Scenes.fallen().ofClaim(0, 2), 2);
        DisputeHalving x = Scenes.disputed(0, 2);
        x.write(0, 0);
        x.prove(1);
        CHECK.due("one that stood is open", x.dispute(3, 0), 2);
    }

    /** Promise 8: "NONE: .. by its own claimant". */
    private static void disputeByItsClaimant() {
        STAYS.behind("dispute: its own claimant", Scenes::busy, NONE,
                x -> x.dispute(0, 0), x -> x.dispute(1, 1), x -> x.dispute(2, 2));
        DisputeHalving x = Scenes.busy();
        CHECK.due("another claimant", x.dispute(0, 1), 4);
        CHECK.due("another claimant", x.dispute(1, 0), 5);
        CHECK.due("the same disputer again", x.dispute(1, 0), 6);
    }

    /** Promise 8: "NONE: .. 4 are OPEN at it". */
    private static void disputeFourOpen() {
        STAYS.behind("dispute: 4 are open", () -> Scenes.disputed(0, 4), NONE, x -> x.dispute(5, 0), x -> x.dispute(1, 0));
        CHECK.due("the fourth", Scenes.disputed(0, 3).dispute(5, 0), 3);
        DisputeHalving x = Scenes.disputed(0, 4);
        x.claim(1, 0, 5);
        CHECK.due("at another claim", x.dispute(5, 1), 4);
        x.write(0, 0);
        x.prove(0);
        CHECK.due("when one has ended", x.dispute(5, 0), 5);
        CHECK.due("but one", x.dispute(6, 0), NONE);
        CHECK.due("four again", x.ofClaim(0, 3), 4);
    }

    /** Promise 8: "NONE: .. PURSE below 50". */
    private static void disputePurse() {
        STAYS.behind("dispute: purse 0", () -> withPurse(0), NONE, x -> x.dispute(0, 0));
        DisputeHalving x = withPurse(50);
        CHECK.due("dispute with 50", x.dispute(0, 0), 1);
        CHECK.due("nothing is left", x.purse(0), 0);
        CHECK.due("and again", x.dispute(0, 0), NONE);
    }

    /** Promise 8: "NONE: .. there are 80". */
    private static void disputeEighty() {
        STAYS.behind("dispute: there are 80", Scenes::eightyDisputes, NONE, x -> x.dispute(1, 20), x -> x.dispute(2, 20));
        DisputeHalving x = Scenes.eightyDisputes();
        CHECK.due("dispute 79", x.ofDispute(79, 1), 19);
        CHECK.due("no dispute 80", x.ofDispute(80, 1), NONE);
        CHECK.due("the purse has enough", x.purse(1), 500);
        x.tick(30);
        CHECK.due("claim 20 is open", x.ofClaim(20, 2), 0);
        CHECK.due("ended ones count too", x.dispute(1, 20), NONE);
        CHECK.due("clear", x.clear(), 21);
        x.claim(0, 0, 1);
        CHECK.due("the first again", x.dispute(1, 0), 0);
        DisputeHalving y = Scenes.withAdder(1);
        for (int i = 0; i < 20; i++) {
            y.claim(i % 4, 0, i);
        }
        for (int i = 0; i < 80; i++) {
            CHECK.due("dispute " + i, y.dispute(4 + i % 4, i / 4), i);
        }
    }

    /** Promise 17: "NONE", of a CLAIM. */
    private static void ofClaimNumber() {
        for (int i = 0; i < 5; i++) {
            int what = i;
            STAYS.behind("ofClaim " + what + ": no claim", Scenes::busy, NONE,
                    x -> x.ofClaim(-1, what), x -> x.ofClaim(3, what), x -> x.ofClaim(40, what),
                    x -> x.ofClaim(MIN, what), x -> x.ofClaim(MAX, what));
        }
        CHECK.due("claim 0", Scenes.fortyClaims().ofClaim(0, 0), 0);
        CHECK.due("claim 39", Scenes.fortyClaims().ofClaim(39, 0), 7);
        CHECK.due("claim 40", Scenes.fortyClaims().ofClaim(40, 0), NONE);
    }

    /** Promise 17: "what = 0 .. 4", else NONE. */
    private static void ofClaimWhat() {
        STAYS.behind("ofClaim: no such what", Scenes::busy, NONE,
                x -> x.ofClaim(0, -1), x -> x.ofClaim(0, 5), x -> x.ofClaim(0, MIN), x -> x.ofClaim(0, MAX));
        DisputeHalving x = Scenes.busy();
        int[][] due = {{0, 0, 0, 2, 40}, {1, 1, 0, 1, 40}, {2, 0, 0, 0, 31}};
        for (int claim = 0; claim < 3; claim++) {
            for (int what = 0; what < 5; what++) {
                CHECK.due("ofClaim " + claim + " " + what, x.ofClaim(claim, what), due[claim][what]);
            }
        }
    }

    /** Promise 17: "4 TICKS until it is ACCEPTED .. (0 if it is not OPEN". */
    private static void ofClaimTicks() {
        CHECK.due("at once", claimOfAge(0).ofClaim(0, 4), 40);
        CHECK.due("behind 1", claimOfAge(1).ofClaim(0, 4), 39);
        CHECK.due("behind 39", claimOfAge(39).ofClaim(0, 4), 1);
        CHECK.due("behind 40", claimOfAge(40).ofClaim(0, 4), 0);
        CHECK.due("behind 41", claimOfAge(41).ofClaim(0, 4), 0);
        CHECK.due("a fallen one", Scenes.fallen().ofClaim(0, 4), 0);
        CHECK.due("open ones of a fallen one", Scenes.fallen().ofClaim(0, 3), 0);
    }

    /** Promise 17: "if none comes or ends .. as if its OPEN ones ended now". */
    private static void ofClaimTicksWithOpenDisputes() {
        DisputeHalving x = claimOfAge(39);
        CHECK.due("one tick is left", x.ofClaim(0, 4), 1);
        x.dispute(1, 0);
        CHECK.due("as if it ended now", x.ofClaim(0, 4), 40);
        x.tick(5);
        CHECK.due("later too", x.ofClaim(0, 4), 40);
        x.tell(0, 9);
        x.tick(29);
        CHECK.due("the last tick before it ends", x.ofClaim(0, 4), 40);
        x.tick(1);
        CHECK.due("it has ended", x.ofDispute(0, 2), 1);
        CHECK.due("with it", x.ofClaim(0, 4), 40);
        x.tick(1);
        CHECK.due("behind it", x.ofClaim(0, 4), 39);
    }

    /** Section 2: "40 TICKS behind it .. it is ACCEPTED: 100 go back". */
    private static void acceptedBehindForty() {
        CHECK.due("39", claimOfAge(39).ofClaim(0, 2), 0);
        CHECK.due("purse at 39", claimOfAge(39).purse(0), 900);
        CHECK.due("40", claimOfAge(40).ofClaim(0, 2), 1);
        CHECK.due("purse at 40", claimOfAge(40).purse(0), 1000);
        CHECK.due("once only", claimOfAge(200).purse(0), 1000);
        DisputeHalving x = Scenes.withAdder(1);
        x.tick(200);
        x.claim(0, 0, 1);
        x.tick(39);
        CHECK.due("39 behind a later one", x.ofClaim(0, 2), 0);
        x.tick(1);
        CHECK.due("40 behind a later one", x.ofClaim(0, 2), 1);
    }

    /** Section 2: "or behind the end of its latest DISPUTE". The one that ends last was made first here. */
    private static void acceptedBehindTheLatestEnd() {
        DisputeHalving x = Scenes.disputed(0, 2);
        x.write(0, 0);
        x.tick(5);
        x.prove(1);
        x.tick(7);
        x.prove(0);
        CHECK.due("from the last end on", x.ofClaim(0, 4), 40);
        x.tick(39);
        CHECK.due("39 behind it", x.ofClaim(0, 2), 0);
        CHECK.due("purse", x.purse(0), 1000);
        x.tick(1);
        CHECK.due("40 behind it", x.ofClaim(0, 2), 1);
        CHECK.due("purse then", x.purse(0), 1100);
    }

    /** Section 2: "if none is OPEN then": the 40th TICK passes while one is OPEN. */
    private static void notAcceptedWhileOneIsOpen() {
        DisputeHalving x = claimOfAge(39);
        x.dispute(1, 0);
        x.tick(1);
        CHECK.due("40 behind it, one is open", x.ofClaim(0, 2), 0);
        x.tell(0, 9);
        x.tick(30);
        CHECK.due("ended with this tick", x.ofDispute(0, 2), 1);
        CHECK.due("not accepted with the same", x.ofClaim(0, 2), 0);
        x.tick(39);
        CHECK.due("39 behind the end", x.ofClaim(0, 2), 0);
        x.tick(1);
        CHECK.due("40 behind the end", x.ofClaim(0, 2), 1);
    }

    /** Promise 20: "NONE", of a PLAYER. */
    private static void pursePlayer() {
        STAYS.behind("purse: no player", Scenes::busy, NONE,
                x -> x.purse(-1), x -> x.purse(8), x -> x.purse(MIN), x -> x.purse(MAX));
        int[] purses = {950, 900, 900, 950, 950, 950, 950, 1000};
        for (int player = 0; player < 8; player++) {
            CHECK.due("purse " + player, Scenes.busy().purse(player), purses[player]);
        }
    }

    /** Promise 21: nothing is lost or made, with all deposits out and with none. */
    private static void sumOfAllDeposits() {
        CHECK.due("nothing is out", Scenes.withAdder(1).sum(), 8000);
        DisputeHalving x = Scenes.withAdder(1);
        for (int i = 0; i < 40; i++) {
            x.claim(i % 8, 0, i);
        }
        for (int i = 0; i < 80; i++) {
            x.dispute((i + 1) % 8, i % 40);
        }
        for (int player = 0; player < 8; player++) {
            CHECK.due("all is out of purse " + player, x.purse(player), 0);
        }
        CHECK.due("the sum of what is out", x.sum(), 8000);
        x.tick(30);
        CHECK.due("all claims are fallen", x.ofClaim(39, 2), 2);
        CHECK.due("the sum of what is back", x.sum(), 8000);
    }

    /** Promise 22: "All CLAIMS and DISPUTES go, PURSES are 1000, time 0 ..: how many CLAIMS there were". */
    private static void clearForgets() {
        DisputeHalving x = Scenes.busy();
        CHECK.due("clear", x.clear(), 3);
        CHECK.due("clear again", x.clear(), 0);
        STAYS.behind("clear: no claim, no dispute", Scenes::cleared, NONE,
                y -> y.ofClaim(0, 0), y -> y.ofDispute(0, 0), y -> y.dispute(7, 0), y -> y.tell(0, 1),
                y -> y.choose(1, 0), y -> y.prove(2));
        for (int player = 0; player < 8; player++) {
            CHECK.due("purse " + player, x.purse(player), 1000);
        }
        CHECK.due("sum", x.sum(), 8000);
        CHECK.due("time", x.tick(0), 0);
        CHECK.due("time passes", x.tick(200), 200);
        CHECK.due("nothing is paid for what went", x.sum(), 8000);
        CHECK.due("numbers begin anew", x.claim(7, 1, 5), 0);
        CHECK.due("numbers begin anew", x.dispute(6, 0), 0);
        CHECK.due("with clocks at 0", x.ofDispute(0, 6) + x.ofDispute(0, 7) + x.ofDispute(0, 8), 0);
        CHECK.due("and ticks to come", x.ofClaim(0, 4), 40);
    }

    /** Promise 22: "(BATCHES, THE DRAFT, THE PAPER stay)". */
    private static void clearLeaves() {
        DisputeHalving x = Scenes.busy();
        DisputeHalving y = Scenes.busy();
        x.clear();
        CHECK.due("batch 0", x.truth(0, 4), y.truth(0, 4));
        CHECK.due("batch 1", x.truth(1, 1), y.truth(1, 1));
        CHECK.due("the paper", x.judge(0, x.truth(0, 2), x.truth(0, 3)), 0);
        CHECK.due("the paper's cells", x.cell(0, 0, 0, 0, 0, 0), NONE);
        CHECK.due("how many", x.cell(2, 0, 0, 0, 0, 0), 3);
        CHECK.due("the draft", x.instruction(0, 0, 0, 0), 3);
        CHECK.due("its batch", x.batch(0, 0, 5, 0, 2), 2);
        CHECK.due("what it does", x.state(2, 4, 6), 205);
    }

    /** Promise 22 with all that there can be: 40 CLAIMS, 80 DISPUTES. */
    private static void clearOfAFullObject() {
        DisputeHalving x = Scenes.fortyClaims();
        for (int i = 0; i < 80; i++) {
            CHECK.due("dispute " + i, x.dispute((i + 1) % 8, i % 40), i);
        }
        CHECK.due("clear", x.clear(), 40);
        CHECK.due("claim 0", x.ofClaim(0, 0), NONE);
        CHECK.due("claim 39", x.ofClaim(39, 0), NONE);
        CHECK.due("dispute 0", x.ofDispute(0, 0), NONE);
        CHECK.due("dispute 79", x.ofDispute(79, 0), NONE);
        CHECK.due("digest 79", x.digest(79, 1), 0);
        CHECK.due("sum", x.sum(), 8000);
        for (int i = 0; i < 40; i++) {
            CHECK.due("claim " + i + " again", x.claim(i % 8, 0, 3), i);
        }
        CHECK.due("none is open at claim 39", x.ofClaim(39, 3), 0);
    }
}
