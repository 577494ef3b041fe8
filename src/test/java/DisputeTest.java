/** Promises 7 to 10, 13 and 16 to 22: the claims, the disputes, their clocks and the purses. */
public final class DisputeTest {
    private static final int NONE = DisputeHalving.NONE;
    private static final int[] NO_NUMBERS = {-1, 80, Integer.MIN_VALUE, Integer.MAX_VALUE};
    private static final Check CHECK = new Check("DisputeTest");

    public static void main(String[] args) {
        claimLimits();
        disputeLimits();
        eightyDisputes();
        fourAreOpen();
        tellAndChoose();
        zeroIsToldToo();
        proveWins();
        proveLoses();
        oneStepWithTheSameDigest();
        acceptedInTime();
        latestEndCounts();
        clocksOfBothSides();
        claimantRunsOut();
        disputerRunsOut();
        lowerNumbersFirst();
        tickLimits();
        whatLimits();
        clearing();
        CHECK.end();
    }

    /** A BATCH 0 that adds for ever, of 2 to the power of r STEPS. */
    private static DisputeHalving adder(int r) {
        DisputeHalving x = new DisputeHalving();
        x.instruction(1, 0, 1, 0);
        x.instruction(9, 1, 0, 0);
        x.batch(0, 3, 0, 0, r);
        return x;
    }

    private static void claimLimits() {
        DisputeHalving x = adder(2);
        int[] noPlayer = {-1, 8, Integer.MIN_VALUE, Integer.MAX_VALUE};
        for (int wrong : noPlayer) {
            CHECK.due("claim player " + wrong, x.claim(wrong, 0, 1), NONE);
            CHECK.due("purse " + wrong, x.purse(wrong), NONE);
        }
        int[] noBatch = {-1, 1, 8, Integer.MIN_VALUE, Integer.MAX_VALUE};
        for (int wrong : noBatch) {
            CHECK.due("claim batch " + wrong, x.claim(0, wrong, 1), NONE);
        }
        CHECK.due("nothing is paid", x.purse(0), 1000);
        for (int i = 0; i < 10; i++) {
            CHECK.due("claim " + i, x.claim(7, 0, i), i);
            CHECK.due("purse behind claim " + i, x.purse(7), 900 - 100 * i);
        }
        CHECK.due("claim with an empty purse", x.claim(7, 0, 0), NONE);
        for (int i = 10; i < 40; i++) {
            CHECK.due("claim " + i, x.claim(i % 7, 0, i), i);
        }
        CHECK.due("claim 41", x.claim(6, 0, 0), NONE);
        CHECK.due("sum", x.sum(), 8000);
        CHECK.due("player of claim 39", x.ofClaim(39, 0), 39 % 7);
        CHECK.due("batch of claim 39", x.ofClaim(39, 1), 0);
    }

    private static void disputeLimits() {
        DisputeHalving x = adder(2);
        x.claim(3, 0, 1);
        int[] noPlayer = {-1, 8, Integer.MIN_VALUE, Integer.MAX_VALUE};
        for (int wrong : noPlayer) {
            CHECK.due("dispute player " + wrong, x.dispute(wrong, 0), NONE);
        }
        int[] noClaim = {-1, 1, 40, Integer.MIN_VALUE, Integer.MAX_VALUE};
        for (int wrong : noClaim) {
            CHECK.due("dispute claim " + wrong, x.dispute(0, wrong), NONE);
        }
        CHECK.due("by its own claimant", x.dispute(3, 0), NONE);
        CHECK.due("purse for two disputes", emptyPurse(x, 5, 9), 100);
        CHECK.due("dispute", x.dispute(5, 0), 0);
        CHECK.due("dispute again", x.dispute(5, 0), 1);
        CHECK.due("purse is empty", x.purse(5), 0);
        CHECK.due("purse below 50", x.dispute(5, 0), NONE);
        x.tick(40);
        CHECK.due("accepted ones", x.ofClaim(1, 2), 1);
        CHECK.due("dispute of an accepted one", x.dispute(0, 1), NONE);
        CHECK.due("fallen", x.ofClaim(0, 2), 2);
        CHECK.due("dispute of a fallen one", x.dispute(0, 0), NONE);
    }

    private static int emptyPurse(DisputeHalving x, int player, int claims) {
        for (int i = 0; i < claims; i++) {
            x.claim(player, 0, i);
        }
        return x.purse(player);
    }

    /** 20 CLAIMS with four DISPUTES each: there is no 81st. */
    private static void eightyDisputes() {
        DisputeHalving x = adder(0);
        for (int i = 0; i < 21; i++) {
            x.claim(i % 4, 0, 0);
        }
        for (int i = 0; i < 80; i++) {
            CHECK.due("dispute " + i, x.dispute(4 + i % 4, i / 4), i);
        }
        CHECK.due("purses are empty", x.purse(4) + x.purse(5) + x.purse(6) + x.purse(7), 0);
        CHECK.due("claims and disputes are in the sum", x.sum(), 8000);
        x.tick(30);
        CHECK.due("claim 19 is fallen", x.ofClaim(19, 2), 2);
        CHECK.due("claim 20 is open", x.ofClaim(20, 2), 0);
        CHECK.due("dispute 81", x.dispute(7, 20), NONE);
        CHECK.due("claimant's purse", x.purse(0), 400);
        CHECK.due("first disputer of each claim", x.purse(4), 3000);
        CHECK.due("dropped at each claim", x.purse(7), 1000);
        CHECK.due("sum", x.sum(), 8000);
    }

    private static void fourAreOpen() {
        DisputeHalving x = adder(0);
        x.claim(0, 0, x.truth(0, 1));
        for (int player = 1; player <= 4; player++) {
            CHECK.due("dispute by " + player, x.dispute(player, 0), player - 1);
        }
        CHECK.due("a fifth", x.dispute(5, 0), NONE);
        CHECK.due("nothing is paid", x.purse(5), 1000);
        CHECK.due("open ones", x.ofClaim(0, 3), 4);
        x.write(0, 0);
        CHECK.due("prove", x.prove(2), 1);
        CHECK.due("open ones then", x.ofClaim(0, 3), 3);
        CHECK.due("a fifth then", x.dispute(5, 0), 4);
        CHECK.due("a sixth", x.dispute(6, 0), NONE);
    }

    private static void tellAndChoose() {
        DisputeHalving x = adder(3);
        x.claim(0, 0, 88);
        x.dispute(1, 0);
        for (int wrong : NO_NUMBERS) {
            CHECK.due("tell " + wrong, x.tell(wrong, 1), NONE);
            CHECK.due("choose " + wrong, x.choose(wrong, 1), NONE);
            CHECK.due("prove " + wrong, x.prove(wrong), NONE);
        }
        whole(x, "at first", new int[] {0, 8, 0, 0}, new long[] {x.truth(0, 0), 88, 0});
        CHECK.due("choose before tell", x.choose(0, 1), NONE);
        CHECK.due("prove before the end", x.prove(0), NONE);
        CHECK.due("tell", x.tell(0, 44), 4);
        whole(x, "told", new int[] {0, 8, 1, 1}, new long[] {x.truth(0, 0), 88, 44});
        CHECK.due("tell again", x.tell(0, 45), NONE);
        CHECK.due("choose -1", x.choose(0, -1), NONE);
        CHECK.due("choose 2", x.choose(0, 2), NONE);
        CHECK.due("prove", x.prove(0), NONE);
        CHECK.due("choose same", x.choose(0, 0), 4);
        whole(x, "same", new int[] {4, 8, 0, 2}, new long[] {44, 88, 0});
        CHECK.due("tell", x.tell(0, 66), 6);
        CHECK.due("choose other", x.choose(0, 1), 2);
        whole(x, "other", new int[] {4, 6, 0, 4}, new long[] {44, 66, 0});
        CHECK.due("tell", x.tell(0, 55), 5);
        CHECK.due("choose same", x.choose(0, 0), 1);
        whole(x, "one left", new int[] {5, 6, 2, 6}, new long[] {55, 66, 0});
        CHECK.due("tell at the end", x.tell(0, 1), NONE);
        CHECK.due("choose at the end", x.choose(0, 0), NONE);
    }

    private static void whole(DisputeHalving x, String when, int[] lowHighTurnAnswers, long[] digests) {
        int[] what = {3, 4, 5, 8};
        for (int i = 0; i < 4; i++) {
            CHECK.due(when + ": ofDispute " + what[i], x.ofDispute(0, what[i]), lowHighTurnAnswers[i]);
        }
        for (int i = 0; i < 3; i++) {
            CHECK.due(when + ": digest " + i, x.digest(0, i), digests[i]);
        }
    }

    private static void zeroIsToldToo() {
        DisputeHalving x = adder(1);
        x.claim(0, 0, 5);
        x.dispute(1, 0);
        CHECK.due("tell 0", x.tell(0, 0), 1);
        CHECK.due("middle", x.digest(0, 2), 0);
        CHECK.due("turn", x.ofDispute(0, 5), 1);
        CHECK.due("choose", x.choose(0, 1), 1);
        CHECK.due("high is 0", x.digest(0, 1), 0);
    }

    private static void proveWins() {
        DisputeHalving x = adder(1);
        x.claim(0, 0, x.truth(0, 2));
        x.dispute(1, 0);
        x.tell(0, x.truth(0, 1));
        x.choose(0, 0);
        x.tick(5);
        x.write(0, 1);
        CHECK.due("prove", x.prove(0), 1);
        CHECK.due("prove again", x.prove(0), NONE);
        CHECK.due("the claimant won", x.ofDispute(0, 2), 1);
        CHECK.due("no turn", x.ofDispute(0, 5), NONE);
        CHECK.due("answers", x.ofDispute(0, 8), 3);
        CHECK.due("claimant's purse", x.purse(0), 950);
        CHECK.due("disputer's purse", x.purse(1), 950);
        CHECK.due("claim stays open", x.ofClaim(0, 2), 0);
        CHECK.due("ticks from now on", x.ofClaim(0, 4), 40);
        CHECK.due("the paper stays", x.judge(0, x.truth(0, 1), x.truth(0, 2)), 0);
        CHECK.due("sum", x.sum(), 8000);
    }

    private static void proveLoses() {
        DisputeHalving x = adder(0);
        long right = x.truth(0, 1);
        x.claim(0, 0, right);
        for (int player = 1; player <= 4; player++) {
            x.dispute(player, 0);
        }
        x.write(0, 0);
        CHECK.due("a right paper wins", x.prove(3), 1);
        x.paper(0, 0);
        CHECK.due("a wrong paper loses", x.prove(1), 0);
        int[] ends = {3, 2, 3, 1};
        int[] purses = {1000, 1100, 1000, 950};
        for (int i = 0; i < 4; i++) {
            CHECK.due("end of " + i, x.ofDispute(i, 2), ends[i]);
            CHECK.due("purse of " + (i + 1), x.purse(i + 1), purses[i]);
            CHECK.due("prove behind the end " + i, x.prove(i), NONE);
        }
        CHECK.due("answers of a lost one", x.ofDispute(1, 8), 1);
        CHECK.due("answers of a dropped one", x.ofDispute(0, 8), 0);
        CHECK.due("claimant's purse", x.purse(0), 950);
        CHECK.due("fallen", x.ofClaim(0, 2), 2);
        CHECK.due("none is open", x.ofClaim(0, 3), 0);
        CHECK.due("no ticks", x.ofClaim(0, 4), 0);
        CHECK.due("sum", x.sum(), 8000);
    }

    private static void oneStepWithTheSameDigest() {
        DisputeHalving x = new DisputeHalving();
        x.instruction(9, 0, 0, 0);
        x.batch(1, 0, 0, 0, 0);
        x.claim(0, 0, x.truth(0, 0));
        CHECK.due("dispute", x.dispute(1, 0), 0);
        CHECK.due("low is high", x.digest(0, 0), x.digest(0, 1));
        CHECK.due("it goes on", x.ofDispute(0, 5), 2);
        x.write(0, 0);
        CHECK.due("prove", x.prove(0), 1);
    }

    private static void acceptedInTime() {
        DisputeHalving x = adder(2);
        x.tick(3);
        x.claim(0, 0, 1);
        x.tick(1);
        x.claim(1, 0, 1);
        CHECK.due("ticks left", x.ofClaim(0, 4), 39);
        CHECK.due("ticks left", x.ofClaim(1, 4), 40);
        x.tick(38);
        CHECK.due("not yet", x.ofClaim(0, 2), 0);
        CHECK.due("ticks left", x.ofClaim(0, 4), 1);
        CHECK.due("purse", x.purse(0), 900);
        x.tick(1);
        CHECK.due("accepted", x.ofClaim(0, 2), 1);
        CHECK.due("ticks left", x.ofClaim(0, 4), 0);
        CHECK.due("purse", x.purse(0), 1000);
        CHECK.due("the other is open", x.ofClaim(1, 2), 0);
        CHECK.due("sum", x.sum(), 8000);
        CHECK.due("time", x.tick(200), 243);
        CHECK.due("the other is accepted", x.ofClaim(1, 2), 1);
        CHECK.due("paid back once", x.purse(0), 1000);
    }

    private static void latestEndCounts() {
        DisputeHalving x = adder(0);
        x.claim(0, 0, x.truth(0, 1));
        x.write(0, 0);
        x.tick(10);
        x.dispute(1, 0);
        x.tick(5);
        x.dispute(2, 0);
        CHECK.due("as if they ended now", x.ofClaim(0, 4), 40);
        x.prove(1);
        x.tick(7);
        CHECK.due("one is open still", x.ofClaim(0, 4), 40);
        x.prove(0);
        x.tick(4);
        CHECK.due("behind the end that came last", x.ofClaim(0, 4), 36);
        x.dispute(3, 0);
        x.tick(29);
        x.prove(2);
        CHECK.due("begins anew", x.ofClaim(0, 4), 40);
        x.tick(39);
        CHECK.due("not yet", x.ofClaim(0, 2), 0);
        x.tick(1);
        CHECK.due("accepted", x.ofClaim(0, 2), 1);
        CHECK.due("purse", x.purse(0), 1150);
    }

    private static void clocksOfBothSides() {
        DisputeHalving x = adder(2);
        x.claim(0, 0, 5);
        x.dispute(1, 0);
        x.tick(11);
        x.tell(0, 6);
        x.tick(12);
        x.choose(0, 1);
        x.tick(13);
        CHECK.due("the claimant's turns add up", x.ofDispute(0, 6), 24);
        x.tell(0, 7);
        x.tick(17);
        CHECK.due("the disputer's turns add up", x.ofDispute(0, 7), 29);
        x.choose(0, 1);
        x.tick(5);
        CHECK.due("to prove is the claimant's turn", x.ofDispute(0, 6), 29);
        CHECK.due("still open", x.ofDispute(0, 2), 0);
        x.tick(1);
        CHECK.due("with its 30th it loses", x.ofDispute(0, 2), 2);
        CHECK.due("claimant's ticks", x.ofDispute(0, 6), 30);
        CHECK.due("disputer's ticks", x.ofDispute(0, 7), 29);
        CHECK.due("answers", x.ofDispute(0, 8), 4);
        x.tick(9);
        CHECK.due("no more ticks", x.ofDispute(0, 6), 30);
    }

    private static void claimantRunsOut() {
        DisputeHalving x = adder(2);
        x.claim(0, 0, 5);
        x.dispute(1, 0);
        x.dispute(2, 0);
        x.tell(1, 9);
        x.tick(29);
        CHECK.due("open", x.ofClaim(0, 2), 0);
        x.tick(1);
        CHECK.due("fallen", x.ofClaim(0, 2), 2);
        CHECK.due("dropped", x.ofDispute(1, 2), 3);
        CHECK.due("no tick for the dropped one", x.ofDispute(1, 7), 29);
        CHECK.due("what is told stays", x.digest(1, 2), 9);
        CHECK.due("no turn", x.ofDispute(1, 5), NONE);
        CHECK.due("choose a dropped one", x.choose(1, 0), NONE);
        CHECK.due("tell a lost one", x.tell(0, 0), NONE);
        CHECK.due("purse 0", x.purse(0), 900);
        CHECK.due("purse 1", x.purse(1), 1100);
        CHECK.due("purse 2", x.purse(2), 1000);
        x.tick(100);
        CHECK.due("a fallen one is never accepted", x.ofClaim(0, 2), 2);
        CHECK.due("sum", x.sum(), 8000);
    }

    private static void disputerRunsOut() {
        DisputeHalving x = adder(2);
        x.claim(0, 0, 5);
        x.dispute(1, 0);
        x.tell(0, 9);
        x.tick(29);
        CHECK.due("open", x.ofDispute(0, 2), 0);
        x.tick(1);
        CHECK.due("the claimant won", x.ofDispute(0, 2), 1);
        CHECK.due("middle stays told", x.digest(0, 2), 9);
        CHECK.due("ticks left", x.ofClaim(0, 4), 40);
        CHECK.due("purse 0", x.purse(0), 950);
        CHECK.due("purse 1", x.purse(1), 950);
        x.tick(39);
        CHECK.due("not yet", x.ofClaim(0, 2), 0);
        x.tick(1);
        CHECK.due("accepted", x.ofClaim(0, 2), 1);
        CHECK.due("purse 0", x.purse(0), 1050);
    }

    /** Both DISPUTES would end at the same TICK: the lower number has its TICK first. */
    private static void lowerNumbersFirst() {
        DisputeHalving x = adder(2);
        x.claim(0, 0, 5);
        x.dispute(1, 0);
        x.dispute(2, 0);
        x.tell(0, 9);
        x.tick(30);
        CHECK.due("0: the disputer is out of time", x.ofDispute(0, 2), 1);
        CHECK.due("1: the claimant is out of time", x.ofDispute(1, 2), 2);
        CHECK.due("purse 0", x.purse(0), 950);
        CHECK.due("purse 1", x.purse(1), 950);
        CHECK.due("purse 2", x.purse(2), 1100);
        x.clear();
        x.claim(0, 0, 5);
        x.dispute(1, 0);
        x.dispute(2, 0);
        x.tell(1, 9);
        x.tick(30);
        CHECK.due("0: the claimant is out of time", x.ofDispute(0, 2), 2);
        CHECK.due("1: dropped", x.ofDispute(1, 2), 3);
        CHECK.due("purse 2", x.purse(2), 1000);
    }

    private static void tickLimits() {
        DisputeHalving x = adder(2);
        x.claim(0, 0, 5);
        int[] wrong = {-1, 201, Integer.MIN_VALUE, Integer.MAX_VALUE};
        for (int n : wrong) {
            CHECK.due("tick " + n, x.tick(n), NONE);
        }
        CHECK.due("tick 0", x.tick(0), 0);
        CHECK.due("no time passed", x.ofClaim(0, 4), 40);
        CHECK.due("tick 200", x.tick(200), 200);
        CHECK.due("tick 1", x.tick(1), 201);
        x.claim(0, 0, 5);
        CHECK.due("tick 40", x.tick(40), 241);
        CHECK.due("accepted", x.ofClaim(1, 2), 1);
    }

    private static void whatLimits() {
        DisputeHalving x = adder(2);
        x.claim(6, 0, 5);
        x.claim(5, 0, 5);
        x.dispute(7, 1);
        int[] wrong = {-1, Integer.MIN_VALUE, Integer.MAX_VALUE};
        for (int what : wrong) {
            CHECK.due("ofClaim what " + what, x.ofClaim(0, what), NONE);
            CHECK.due("ofClaim " + what, x.ofClaim(what, 0), NONE);
            CHECK.due("ofDispute what " + what, x.ofDispute(0, what), NONE);
            CHECK.due("ofDispute " + what, x.ofDispute(what, 0), NONE);
            CHECK.due("digest what " + what, x.digest(0, what), 0);
            CHECK.due("digest " + what, x.digest(what, 0), 0);
        }
        CHECK.due("ofClaim what 5", x.ofClaim(0, 5), NONE);
        CHECK.due("ofClaim 2", x.ofClaim(2, 0), NONE);
        CHECK.due("ofDispute what 9", x.ofDispute(0, 9), NONE);
        CHECK.due("ofDispute 1", x.ofDispute(1, 0), NONE);
        CHECK.due("digest what 3", x.digest(0, 3), 0);
        CHECK.due("digest 1", x.digest(1, 0), 0);
        CHECK.due("player of the claim", x.ofClaim(1, 0), 5);
        CHECK.due("player of the dispute", x.ofDispute(0, 0), 7);
        CHECK.due("claim of the dispute", x.ofDispute(0, 1), 1);
        CHECK.due("none is open at claim 0", x.ofClaim(0, 3), 0);
        CHECK.due("one is open at claim 1", x.ofClaim(1, 3), 1);
    }

    private static void clearing() {
        DisputeHalving x = adder(0);
        CHECK.due("clear of nothing", x.clear(), 0);
        x.instruction(0, 0, 0, 0);
        x.claim(0, 0, 5);
        x.claim(1, 0, 5);
        x.claim(2, 0, 5);
        x.dispute(3, 0);
        x.dispute(4, 1);
        x.tick(12);
        x.write(0, 0);
        x.prove(0);
        CHECK.due("clear", x.clear(), 3);
        CHECK.due("time", x.tick(0), 0);
        CHECK.due("claims are gone", x.ofClaim(0, 0), NONE);
        CHECK.due("disputes are gone", x.ofDispute(1, 0), NONE);
        CHECK.due("digests are gone", x.digest(1, 0), 0);
        for (int player = 0; player < 8; player++) {
            CHECK.due("purse " + player, x.purse(player), 1000);
        }
        CHECK.due("sum", x.sum(), 8000);
        CHECK.due("the paper stays", x.judge(0, x.truth(0, 0), x.truth(0, 1)), 0);
        CHECK.due("the draft stays", x.instruction(0, 0, 0, 0), 2);
        x.tick(60);
        CHECK.due("nothing is paid back", x.sum(), 8000);
        CHECK.due("numbers begin anew", x.claim(5, 0, 5), 0);
        CHECK.due("ticks left", x.ofClaim(0, 4), 40);
        CHECK.due("none is open", x.ofClaim(0, 3), 0);
        CHECK.due("numbers begin anew", x.dispute(6, 0), 0);
        CHECK.due("clear again", x.clear(), 1);
    }
}
