/** The boundary cases that promises 9, 10, 13, 16, 18 and 19 name: tell, choose, prove, tick, ofDispute, digest. */
public final class EdgesOfDisputesTest {
    private static final int NONE = DisputeHalving.NONE;
    private static final int MIN = Integer.MIN_VALUE;
    private static final int MAX = Integer.MAX_VALUE;
    private static final Check CHECK = new Check("EdgesOfDisputesTest");
    private static final Stays STAYS = new Stays(CHECK);

    public static void main(String[] args) {
        tellNumber();
        tellNotItsTurn();
        tellTakesEveryDigest();
        chooseNumber();
        chooseNotItsTurn();
        chooseNeither();
        proveNumber();
        proveNotItsTurn();
        proveLeavesThePaper();
        oneStepIsProved();
        twoStepsAreTold();
        alikeDigestsGoOn();
        tenHalvings();
        tickNumber();
        timeGoesOn();
        claimantsThirty();
        claimantsThirtyToProve();
        disputersThirty();
        thirtyInAll();
        noTickBehindTheEnd();
        byNumbers();
        disputesBeforeClaims();
        droppedOnesOfThisClaimAlone();
        ofDisputeNumber();
        ofDisputeWhat();
        turnOfEndedOnes();
        digestNumber();
        digestWhat();
        middleNotTold();
        CHECK.end();
    }

    /** Promise 9: "NONE: no DISPUTE". */
    private static void tellNumber() {
        STAYS.behind("tell: no dispute", Scenes::busy, NONE,
                x -> x.tell(-1, 5), x -> x.tell(4, 5), x -> x.tell(80, 5), x -> x.tell(MIN, 5), x -> x.tell(MAX, 5));
        STAYS.behind("tell: no dispute 80", Scenes::eightyDisputes, NONE, x -> x.tell(80, 5));
        DisputeHalving x = Scenes.eightyDisputes();
        CHECK.due("tell 0", x.tell(0, 5), 1);
        CHECK.due("tell 79", x.tell(79, 6), 1);
        CHECK.due("what was told", x.digest(79, 2), 6);
    }

    /** Promise 9: "NONE: .. it is not its turn to TELL". */
    private static void tellNotItsTurn() {
        STAYS.behind("tell: the disputer's turn, to prove, ended", Scenes::busy, NONE,
                x -> x.tell(1, 5), x -> x.tell(2, 5), x -> x.tell(3, 5));
        STAYS.behind("tell: lost and dropped", Scenes::lostByTime, NONE,
                x -> x.tell(0, 5), x -> x.tell(1, 5), x -> x.tell(2, 5));
        CHECK.due("its turn", Scenes.busy().tell(0, 5), 2);
    }

    /** Promise 9 refuses no DIGEST, 0 among them. */
    private static void tellTakesEveryDigest() {
        long[] every = {0, -1, 1, Long.MIN_VALUE, Long.MAX_VALUE};
        for (long digest : every) {
            DisputeHalving x = Scenes.disputed(1, 1);
            CHECK.due("tell " + digest, x.tell(0, digest), 1);
            CHECK.due("middle", x.digest(0, 2), digest);
            CHECK.due("the disputer's turn", x.ofDispute(0, 5), 1);
            CHECK.due("told once", x.tell(0, 77), NONE);
            CHECK.due("choose", x.choose(0, 1), 1);
            CHECK.due("high", x.digest(0, 1), digest);
        }
    }

    /** Promise 10: "NONE: no DISPUTE". */
    private static void chooseNumber() {
        STAYS.behind("choose: no dispute", Scenes::busy, NONE,
                x -> x.choose(-1, 0), x -> x.choose(4, 1), x -> x.choose(80, 0), x -> x.choose(MIN, 1),
                x -> x.choose(MAX, 0));
        STAYS.behind("choose: no dispute 80", Scenes::eightyDisputes, NONE, x -> x.choose(80, 1));
        DisputeHalving x = Scenes.eightyDisputes();
        x.tell(0, 5);
        x.tell(79, 6);
        CHECK.due("choose in 0", x.choose(0, 1), 1);
        CHECK.due("choose in 79", x.choose(79, 0), 1);
    }

    /** Promise 10: "NONE: .. not its turn". */
    private static void chooseNotItsTurn() {
        STAYS.behind("choose: to tell, to prove, ended", Scenes::busy, NONE,
                x -> x.choose(0, 0), x -> x.choose(0, 1), x -> x.choose(2, 0), x -> x.choose(2, 1),
                x -> x.choose(3, 0), x -> x.choose(3, 1));
        STAYS.behind("choose: lost and dropped", Scenes::lostByTime, NONE,
                x -> x.choose(0, 0), x -> x.choose(1, 1), x -> x.choose(2, 0), x -> x.choose(2, 1));
        CHECK.due("its turn", Scenes.busy().choose(1, 0), 2);
    }

    /** Promise 10: "NONE: .. other is neither" 0 nor 1. */
    private static void chooseNeither() {
        STAYS.behind("choose: neither", Scenes::busy, NONE,
                x -> x.choose(1, -1), x -> x.choose(1, 2), x -> x.choose(1, MIN), x -> x.choose(1, MAX));
        DisputeHalving same = Scenes.busy();
        CHECK.due("same", same.choose(1, 0), 2);
        CHECK.due("low", same.ofDispute(1, 3), 2);
        CHECK.due("high", same.ofDispute(1, 4), 4);
        CHECK.due("low's digest", same.digest(1, 0), 44);
        DisputeHalving other = Scenes.busy();
        CHECK.due("other", other.choose(1, 1), 2);
        CHECK.due("low", other.ofDispute(1, 3), 0);
        CHECK.due("high", other.ofDispute(1, 4), 2);
        CHECK.due("high's digest", other.digest(1, 1), 44);
    }

    /** Promise 13: "NONE: no DISPUTE". */
    private static void proveNumber() {
        STAYS.behind("prove: no dispute", Scenes::busy, NONE,
                x -> x.prove(-1), x -> x.prove(4), x -> x.prove(80), x -> x.prove(MIN), x -> x.prove(MAX));
        STAYS.behind("prove: no dispute 80", Scenes::eightyDisputes, NONE, x -> x.prove(80));
        DisputeHalving x = Scenes.eightyDisputes();
        x.tell(79, x.truth(0, 1));
        x.choose(79, 1);
        x.write(0, 0);
        CHECK.due("prove in 79", x.prove(79), 1);
        CHECK.due("it has ended", x.ofDispute(79, 2), 1);
        DisputeHalving y = Scenes.disputed(0, 1);
        y.write(0, 0);
        CHECK.due("prove in 0", y.prove(0), 1);
    }

    /** Promise 13: "NONE: .. it is not its turn to PROVE". */
    private static void proveNotItsTurn() {
        STAYS.behind("prove: to tell, to choose, ended", Scenes::busy, NONE,
                x -> x.prove(0), x -> x.prove(1), x -> x.prove(3));
        STAYS.behind("prove: lost and dropped", Scenes::lostByTime, NONE,
                x -> x.prove(0), x -> x.prove(1), x -> x.prove(2));
        STAYS.behind("prove: lost by a wrong paper", Scenes::fallen, NONE, x -> x.prove(0), x -> x.prove(1));
        CHECK.due("its turn", Scenes.busy().prove(2), 0);
    }

    /** Promise 13: "THE PAPER (which stays)", when it won and when it lost. */
    private static void proveLeavesThePaper() {
        DisputeHalving x = Scenes.disputed(0, 2);
        x.claim(7, 0, 1234);
        x.dispute(3, 1);
        x.write(0, 0);
        CHECK.due("won", x.prove(0), 1);
        CHECK.due("by the same paper", x.prove(1), 1);
        CHECK.due("lost by the same paper", x.prove(2), 0);
        CHECK.due("it is right still", x.judge(0, x.truth(0, 0), x.truth(0, 1)), 0);
        CHECK.due("its cells", x.cell(0, 1, 1, 1, 1, 1), NONE);
        CHECK.due("its two cells", x.cell(2, 1, 1, 1, 1, 1), 3);
    }

    /** Section 2: "If HIGH is LOW + 1 it is the claimant's turn: to PROVE": at once where N is 1. */
    private static void oneStepIsProved() {
        DisputeHalving x = Scenes.disputed(0, 1);
        CHECK.due("low", x.ofDispute(0, 3), 0);
        CHECK.due("high", x.ofDispute(0, 4), 1);
        CHECK.due("to prove", x.ofDispute(0, 5), 2);
        STAYS.behind("one step: no halving", () -> Scenes.disputed(0, 1), NONE,
                y -> y.tell(0, 5), y -> y.choose(0, 0), y -> y.choose(0, 1));
    }

    /** Section 2: "If HIGH is above LOW + 1 it is the claimant's turn: to TELL": LOW + 2 is the least. */
    private static void twoStepsAreTold() {
        DisputeHalving x = Scenes.disputed(1, 1);
        CHECK.due("high", x.ofDispute(0, 4), 2);
        CHECK.due("to tell", x.ofDispute(0, 5), 0);
        STAYS.behind("two steps: nothing to choose or prove", () -> Scenes.disputed(1, 1), NONE,
                y -> y.choose(0, 0), y -> y.choose(0, 1), y -> y.prove(0));
        CHECK.due("middle", x.tell(0, x.truth(0, 1)), 1);
        CHECK.due("one is left", x.choose(0, 0), 1);
        CHECK.due("low", x.ofDispute(0, 3), 1);
        CHECK.due("to prove", x.ofDispute(0, 5), 2);
    }

    /** Section 2: "if these two are alike and N is 1 it goes on all the same"; nothing ends it for other N. */
    private static void alikeDigestsGoOn() {
        for (int r = 0; r <= 1; r++) {
            DisputeHalving x = new DisputeHalving();
            x.instruction(9, 0, 0, 0);
            x.batch(1, 0, 0, 0, r);
            x.claim(0, 0, x.truth(0, 0));
            CHECK.due("dispute, r " + r, x.dispute(1, 0), 0);
            CHECK.due("alike, r " + r, x.digest(0, 1), x.digest(0, 0));
            CHECK.due("open, r " + r, x.ofDispute(0, 2), 0);
            CHECK.due("turn, r " + r, x.ofDispute(0, 5), r == 0 ? 2 : 0);
            if (r == 1) {
                x.tell(0, x.truth(0, 1));
                x.choose(0, 0);
            }
            x.write(0, r);
            CHECK.due("prove, r " + r, x.prove(0), 1);
        }
        DisputeHalving x = Scenes.withAdder(0);
        x.claim(0, 0, x.truth(0, 0));
        x.dispute(1, 0);
        x.write(0, 0);
        CHECK.due("alike, but the step changes something", x.prove(0), 0);
    }

    /** Section 2: the longest DISPUTE, N = 1024, halved at each end. */
    private static void tenHalvings() {
        for (int other = 0; other <= 1; other++) {
            DisputeHalving x = Scenes.disputed(10, 1);
            for (int left = 512; left >= 1; left = left / 2) {
                int middle = other == 1 ? left : 1024 - left;
                CHECK.due("middle of " + 2 * left, x.tell(0, x.truth(0, middle)), middle);
                CHECK.due("halved to " + left, x.choose(0, other), left);
            }
            CHECK.due("low", x.ofDispute(0, 3), other == 1 ? 0 : 1023);
            CHECK.due("high", x.ofDispute(0, 4), other == 1 ? 1 : 1024);
            CHECK.due("answers", x.ofDispute(0, 8), 20);
            CHECK.due("to prove", x.ofDispute(0, 5), 2);
            x.write(0, x.ofDispute(0, 3));
            CHECK.due("prove", x.prove(0), 1);
            CHECK.due("answers then", x.ofDispute(0, 8), 21);
        }
    }

    /** Promise 16: "n TICKS (0 .. 200)", else NONE. */
    private static void tickNumber() {
        STAYS.behind("tick: not 0 .. 200", Scenes::busy, NONE,
                x -> x.tick(-1), x -> x.tick(201), x -> x.tick(MIN), x -> x.tick(MAX));
        CHECK.due("tick 0", Scenes.busy().tick(0), 12);
        CHECK.due("tick 1", Scenes.busy().tick(1), 13);
        CHECK.due("tick 199", Scenes.busy().tick(199), 211);
        CHECK.due("tick 200", Scenes.busy().tick(200), 212);
        STAYS.behind("tick 0 changes nothing", Scenes::busy, 12, x -> x.tick(0));
        DisputeHalving x = Scenes.busy();
        x.tick(200);
        CHECK.due("all has ended in 200", x.sum() - x.purse(0) - x.purse(1) - x.purse(2), 5150);
    }

    /** Promise 16: n TICKS at once and one by one are alike; time has no end of its own. */
    private static void timeGoesOn() {
        DisputeHalving at = Scenes.busy();
        DisputeHalving by = Scenes.busy();
        for (int i = 0; i < 200; i++) {
            by.tick(1);
        }
        CHECK.due("the time", at.tick(200), by.tick(0));
        for (int player = 0; player < 8; player++) {
            CHECK.due("purse " + player, at.purse(player), by.purse(player));
        }
        for (int claim = 0; claim < 3; claim++) {
            CHECK.due("claim " + claim, at.ofClaim(claim, 2), by.ofClaim(claim, 2));
        }
        DisputeHalving x = Scenes.withAdder(1);
        for (int i = 1; i <= 400; i++) {
            CHECK.due("time", x.tick(200), 200 * i);
        }
        x.claim(0, 0, 5);
        x.tick(39);
        CHECK.due("a late claim", x.ofClaim(0, 2), 0);
        x.tick(1);
        CHECK.due("a late claim is accepted", x.ofClaim(0, 2), 1);
    }

    /** Section 2: "Each side has 30 TICKS ..; with its 30th one it loses": the claimant, who does not TELL. */
    private static void claimantsThirty() {
        DisputeHalving x = Scenes.disputed(1, 1);
        x.tick(29);
        CHECK.due("29 of the claimant", x.ofDispute(0, 6), 29);
        CHECK.due("open", x.ofDispute(0, 2), 0);
        CHECK.due("purse of the disputer", x.purse(1), 950);
        x.tick(1);
        CHECK.due("30 of the claimant", x.ofDispute(0, 6), 30);
        CHECK.due("the disputer won", x.ofDispute(0, 2), 2);
        CHECK.due("none of the disputer", x.ofDispute(0, 7), 0);
        CHECK.due("fallen", x.ofClaim(0, 2), 2);
        CHECK.due("150 go to the disputer", x.purse(1), 1100);
        CHECK.due("the claimant's 100 are gone", x.purse(0), 900);
        DisputeHalving y = Scenes.disputed(1, 1);
        y.tick(29);
        CHECK.due("in time still", y.tell(0, 5), 1);
    }

    /** The same to PROVE. */
    private static void claimantsThirtyToProve() {
        DisputeHalving x = Scenes.disputed(0, 1);
        x.write(0, 0);
        x.tick(29);
        CHECK.due("29 of the claimant", x.ofDispute(0, 6), 29);
        CHECK.due("in time still", x.prove(0), 1);
        DisputeHalving y = Scenes.disputed(0, 1);
        y.write(0, 0);
        y.tick(30);
        CHECK.due("too late", y.prove(0), NONE);
        CHECK.due("the disputer won", y.ofDispute(0, 2), 2);
        CHECK.due("no answer was given", y.ofDispute(0, 8), 0);
    }

    /** The same of the disputer: "If the disputer loses: its 50 go to the claimant". */
    private static void disputersThirty() {
        DisputeHalving x = Scenes.disputed(1, 1);
        x.tell(0, 5);
        x.tick(29);
        CHECK.due("29 of the disputer", x.ofDispute(0, 7), 29);
        CHECK.due("open", x.ofDispute(0, 2), 0);
        CHECK.due("purse of the claimant", x.purse(0), 900);
        x.tick(1);
        CHECK.due("30 of the disputer", x.ofDispute(0, 7), 30);
        CHECK.due("none of the claimant", x.ofDispute(0, 6), 0);
        CHECK.due("the claimant won", x.ofDispute(0, 2), 1);
        CHECK.due("its 50 go to the claimant", x.purse(0), 950);
        CHECK.due("they are gone", x.purse(1), 950);
        CHECK.due("the claim is open", x.ofClaim(0, 2), 0);
        CHECK.due("none is open at it", x.ofClaim(0, 3), 0);
        DisputeHalving y = Scenes.disputed(1, 1);
        y.tell(0, 5);
        y.tick(29);
        CHECK.due("in time still", y.choose(0, 0), 1);
    }

    /** "30 TICKS for all its turns in a DISPUTE": TELL, TELL again and PROVE count together, CHOOSE apart. */
    private static void thirtyInAll() {
        DisputeHalving x = Scenes.disputed(2, 1);
        x.tick(10);
        x.tell(0, x.truth(0, 2));
        x.tick(14);
        x.choose(0, 1);
        x.tick(10);
        x.tell(0, x.truth(0, 1));
        x.tick(15);
        CHECK.due("29 of the disputer", x.ofDispute(0, 7), 29);
        x.choose(0, 1);
        x.tick(9);
        CHECK.due("29 of the claimant", x.ofDispute(0, 6), 29);
        CHECK.due("open", x.ofDispute(0, 2), 0);
        x.tick(1);
        CHECK.due("the 30th of all", x.ofDispute(0, 6), 30);
        CHECK.due("lost", x.ofDispute(0, 2), 2);
        DisputeHalving y = Scenes.disputed(2, 1);
        y.tell(0, 1);
        y.tick(15);
        y.choose(0, 1);
        y.tell(0, 2);
        y.tick(14);
        CHECK.due("29 of the disputer", y.ofDispute(0, 2), 0);
        y.tick(1);
        CHECK.due("the 30th of all", y.ofDispute(0, 2), 1);
    }

    private static void noTickBehindTheEnd() {
        DisputeHalving x = Scenes.lostByTime();
        int[] claimants = {30, 0, 29};
        int[] disputers = {0, 29, 0};
        x.tick(200);
        for (int dispute = 0; dispute < 3; dispute++) {
            CHECK.due("claimant's ticks in " + dispute, x.ofDispute(dispute, 6), claimants[dispute]);
            CHECK.due("disputer's ticks in " + dispute, x.ofDispute(dispute, 7), disputers[dispute]);
        }
        CHECK.due("a fallen one is never accepted", x.ofClaim(0, 2), 2);
        CHECK.due("purse", x.purse(0), 900);
    }

    /** "At a TICK all OPEN DISPUTES, by numbers, have theirs": which one ends first tells who is paid. */
    private static void byNumbers() {
        DisputeHalving x = Scenes.disputed(1, 3);
        x.tick(30);
        int[] ends = {2, 3, 3};
        int[] purses = {1100, 1000, 1000};
        for (int dispute = 0; dispute < 3; dispute++) {
            CHECK.due("end of " + dispute, x.ofDispute(dispute, 2), ends[dispute]);
            CHECK.due("purse of " + (dispute + 1), x.purse(dispute + 1), purses[dispute]);
        }
        CHECK.due("ticks of the first", x.ofDispute(0, 6), 30);
        CHECK.due("dropped before its own tick", x.ofDispute(1, 6), 29);
        DisputeHalving y = Scenes.disputed(1, 2);
        y.tell(0, 5);
        y.tick(30);
        CHECK.due("the disputer of 0 loses first", y.ofDispute(0, 2), 1);
        CHECK.due("then the claimant, in 1", y.ofDispute(1, 2), 2);
        CHECK.due("its 50 were the claimant's", y.purse(0), 950);
        CHECK.due("they do not come back", y.purse(1), 950);
        CHECK.due("150", y.purse(2), 1100);
    }

    /** "then OPEN CLAIMS by numbers, whether they are ACCEPTED". */
    private static void disputesBeforeClaims() {
        DisputeHalving x = Scenes.withAdder(1);
        x.claim(0, 0, 1);
        x.tick(10);
        x.dispute(1, 0);
        x.tick(30);
        CHECK.due("40 behind it and lost with the same tick", x.ofClaim(0, 2), 2);
        CHECK.due("purse", x.purse(0), 900);
        DisputeHalving y = Scenes.withAdder(1);
        y.claim(0, 0, 1);
        y.tick(10);
        y.dispute(1, 0);
        y.tell(0, 5);
        y.tick(30);
        CHECK.due("40 behind it and won with the same tick", y.ofClaim(0, 2), 0);
        CHECK.due("40 to come", y.ofClaim(0, 4), 40);
        DisputeHalving z = Scenes.fortyClaims();
        z.tick(39);
        CHECK.due("claim 39 is open", z.ofClaim(39, 2), 0);
        z.tick(1);
        CHECK.due("claim 0 is accepted", z.ofClaim(0, 2), 1);
        CHECK.due("claim 39 is accepted", z.ofClaim(39, 2), 1);
        CHECK.due("all is back", z.purse(7), 1000);
    }

    /** "all other OPEN DISPUTES of the CLAIM are DROPPED: each 50 goes back". */
    private static void droppedOnesOfThisClaimAlone() {
        DisputeHalving x = Scenes.disputed(0, 3);
        x.claim(4, 0, 1);
        x.dispute(3, 1);
        x.write(0, 0);
        CHECK.due("0 has ended before", x.prove(0), 1);
        x.paper(0, 0);
        CHECK.due("1 is lost", x.prove(1), 0);
        int[] ends = {1, 2, 3, 0};
        for (int dispute = 0; dispute < 4; dispute++) {
            CHECK.due("end of " + dispute, x.ofDispute(dispute, 2), ends[dispute]);
        }
        int[] purses = {950, 950, 1100, 950, 900};
        for (int player = 0; player < 5; player++) {
            CHECK.due("purse " + player, x.purse(player), purses[player]);
        }
        CHECK.due("the other claim is open", x.ofClaim(1, 2), 0);
        CHECK.due("with its one", x.ofClaim(1, 3), 1);
        CHECK.due("none at the fallen one", x.ofClaim(0, 3), 0);
        CHECK.due("sum", x.sum(), 8000);
    }

    /** Promise 18: "NONE", of a DISPUTE. */
    private static void ofDisputeNumber() {
        for (int i = 0; i < 9; i++) {
            int what = i;
            STAYS.behind("ofDispute " + what + ": no dispute", Scenes::busy, NONE,
                    x -> x.ofDispute(-1, what), x -> x.ofDispute(4, what), x -> x.ofDispute(80, what),
                    x -> x.ofDispute(MIN, what), x -> x.ofDispute(MAX, what));
        }
        CHECK.due("dispute 0", Scenes.eightyDisputes().ofDispute(0, 0), 4);
        CHECK.due("dispute 79", Scenes.eightyDisputes().ofDispute(79, 0), 7);
        CHECK.due("dispute 80", Scenes.eightyDisputes().ofDispute(80, 0), NONE);
    }

    /** Promise 18: "what = 0 .. 8", else NONE. */
    private static void ofDisputeWhat() {
        STAYS.behind("ofDispute: no such what", Scenes::busy, NONE,
                x -> x.ofDispute(0, -1), x -> x.ofDispute(0, 9), x -> x.ofDispute(0, MIN), x -> x.ofDispute(0, MAX));
        DisputeHalving x = Scenes.busy();
        int[][] due = {
            {3, 0, 0, 0, 4, 0, 9, 0, 0},
            {4, 0, 0, 0, 4, 1, 0, 9, 1},
            {5, 1, 0, 0, 1, 2, 9, 0, 0},
            {6, 0, 1, 2, 3, NONE, 4, 0, 5}};
        for (int dispute = 0; dispute < 4; dispute++) {
            for (int what = 0; what < 9; what++) {
                CHECK.due("ofDispute " + dispute + " " + what, x.ofDispute(dispute, what), due[dispute][what]);
            }
        }
    }

    /** Promise 18: "5 whose turn: .. NONE if it is not OPEN". */
    private static void turnOfEndedOnes() {
        DisputeHalving x = Scenes.lostByTime();
        int[] ends = {2, 3, 3};
        for (int dispute = 0; dispute < 3; dispute++) {
            CHECK.due("end of " + dispute, x.ofDispute(dispute, 2), ends[dispute]);
            CHECK.due("no turn in " + dispute, x.ofDispute(dispute, 5), NONE);
        }
        CHECK.due("no turn in one that was won", Scenes.busy().ofDispute(3, 5), NONE);
        CHECK.due("no turn in one that was lost", Scenes.fallen().ofDispute(1, 5), NONE);
    }

    /** Promise 19: "0: none such", of a DISPUTE. */
    private static void digestNumber() {
        for (int i = 0; i < 3; i++) {
            int what = i;
            STAYS.behind("digest " + what + ": no dispute", Scenes::busy, 0,
                    x -> x.digest(-1, what), x -> x.digest(4, what), x -> x.digest(80, what),
                    x -> x.digest(MIN, what), x -> x.digest(MAX, what));
        }
        DisputeHalving x = Scenes.eightyDisputes();
        CHECK.due("dispute 4", x.digest(4, 1), 1);
        CHECK.due("dispute 79", x.digest(79, 1), 19);
        CHECK.due("dispute 80", x.digest(80, 1), 0);
    }

    /** Promise 19: "LOW (what = 0), HIGH (1), MIDDLE (2 ..)", else 0. */
    private static void digestWhat() {
        STAYS.behind("digest: no such what", Scenes::busy, 0,
                x -> x.digest(1, -1), x -> x.digest(1, 3), x -> x.digest(1, MIN), x -> x.digest(1, MAX));
        DisputeHalving x = Scenes.busy();
        CHECK.due("low", x.digest(1, 0), x.truth(0, 0));
        CHECK.due("high", x.digest(1, 1), x.truth(0, 4));
        CHECK.due("middle", x.digest(1, 2), 44);
    }

    /** Promise 19: "MIDDLE (2: 0 if it is not told)": at first, behind CHOOSE, and where nothing is to be told. */
    private static void middleNotTold() {
        DisputeHalving x = Scenes.disputed(2, 1);
        CHECK.due("at first", x.digest(0, 2), 0);
        x.tell(0, 7);
        CHECK.due("told", x.digest(0, 2), 7);
        x.choose(0, 1);
        CHECK.due("the next is not told", x.digest(0, 2), 0);
        x.tell(0, 8);
        CHECK.due("told again", x.digest(0, 2), 8);
        x.choose(0, 0);
        CHECK.due("to prove", x.digest(0, 2), 0);
        CHECK.due("one step", Scenes.disputed(0, 1).digest(0, 2), 0);
        CHECK.due("one that was lost", Scenes.lostByTime().digest(0, 2), 0);
    }
}
