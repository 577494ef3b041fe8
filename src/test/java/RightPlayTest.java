import java.util.Random;

/** Who answers rightly in time never loses: right claimants and right disputers in many games. */
public final class RightPlayTest {
    private static final Check CHECK = new Check("RightPlayTest");

    public static void main(String[] args) {
        for (int seed = 0; seed < 400; seed++) {
            Random random = new Random(seed);
            rightClaimant(random, seed % 11);
            rightDisputer(random, seed % 11);
            rightClaimantAgainstFour(random, seed % 9);
            rightDisputerAmongFour(random, seed % 9);
        }
        CHECK.end();
    }

    private static DisputeHalving anyBatch(Random random, int r) {
        DisputeHalving x = new DisputeHalving();
        int length = 1 + random.nextInt(24);
        for (int i = 0; i < length; i++) {
            x.instruction(random.nextInt(10), random.nextInt(16), random.nextInt(16), random.nextInt(length + 1));
        }
        x.batch(random.nextInt(), random.nextInt(9), random.nextInt(), 1, r);
        return x;
    }

    private static void rightClaimant(Random random, int r) {
        DisputeHalving x = anyBatch(random, r);
        x.claim(0, 0, x.truth(0, 1 << r));
        x.dispute(1, 0);
        x.dispute(2, 0);
        for (int dispute = 0; dispute < 2; dispute++) {
            for (int i = 0; i < r; i++) {
                int middle = (x.ofDispute(dispute, 3) + x.ofDispute(dispute, 4)) / 2;
                CHECK.due("tell", x.tell(dispute, x.truth(0, middle)), middle);
                CHECK.due("choose", x.choose(dispute, random.nextInt(2)), 1 << (r - 1 - i));
                x.tick(1);
            }
            CHECK.holds("write", x.write(0, x.ofDispute(dispute, 3)) >= 0);
            CHECK.due("prove", x.prove(dispute), 1);
        }
        CHECK.due("the claim is open", x.ofClaim(0, 2), 0);
        x.tick(40);
        CHECK.due("the claim is accepted", x.ofClaim(0, 2), 1);
        CHECK.due("claimant's purse", x.purse(0), 1100);
    }

    private static void rightDisputer(Random random, int r) {
        DisputeHalving x = anyBatch(random, r);
        x.claim(0, 0, x.truth(0, 1 << r) + 1 + random.nextInt(9));
        x.dispute(1, 0);
        for (int i = 0; i < r; i++) {
            int middle = (x.ofDispute(0, 3) + x.ofDispute(0, 4)) / 2;
            long truth = x.truth(0, middle);
            long told = truth + random.nextInt(2);
            x.tell(0, told);
            x.choose(0, told == truth ? 0 : 1);
            x.tick(2);
        }
        x.write(0, x.ofDispute(0, 3));
        CHECK.due("judge", x.judge(0, x.digest(0, 0), x.digest(0, 1)), 4);
        CHECK.due("prove", x.prove(0), 0);
        CHECK.due("the claim is fallen", x.ofClaim(0, 2), 2);
        CHECK.due("disputer's purse", x.purse(1), 1100);
        CHECK.due("claimant's purse", x.purse(0), 900);
    }

    /** A true CLAIM with four disputers at once, who choose as they like or not at all. */
    private static void rightClaimantAgainstFour(Random random, int r) {
        DisputeHalving x = anyBatch(random, r);
        x.claim(0, 0, x.truth(0, 1 << r));
        disputeByFour(x);
        for (int round = 0; round <= r; round++) {
            for (int dispute = 0; dispute < 4; dispute++) {
                if (random.nextInt(9) != 0) {
                    x.choose(dispute, random.nextInt(2));
                }
                answerRightly(x, dispute);
            }
            x.tick(2);
        }
        x.tick(30);
        for (int dispute = 0; dispute < 4; dispute++) {
            CHECK.due("the claimant won dispute " + dispute, x.ofDispute(dispute, 2), 1);
            CHECK.due("disputer's purse", x.purse(dispute + 1), 950);
        }
        x.tick(40);
        CHECK.due("the claim is accepted", x.ofClaim(0, 2), 1);
        CHECK.due("claimant's purse", x.purse(0), 1200);
    }

    private static void disputeByFour(DisputeHalving x) {
        for (int dispute = 0; dispute < 4; dispute++) {
            CHECK.due("dispute", x.dispute(dispute + 1, 0), dispute);
        }
    }

    private static void answerRightly(DisputeHalving x, int dispute) {
        int turn = x.ofDispute(dispute, 5);
        if (turn == 0) {
            x.tell(dispute, x.truth(0, middle(x, dispute)));
        } else if (turn == 2) {
            x.write(0, x.ofDispute(dispute, 3));
            x.prove(dispute);
        }
    }

    private static int middle(DisputeHalving x, int dispute) {
        return (x.ofDispute(dispute, 3) + x.ofDispute(dispute, 4)) / 2;
    }

    /** A false CLAIM whose claimant does anything; of the four disputers at once one is right. */
    private static void rightDisputerAmongFour(Random random, int r) {
        DisputeHalving x = anyBatch(random, r);
        x.claim(0, 0, x.truth(0, 1 << r) - 1 - random.nextInt(9));
        disputeByFour(x);
        int right = random.nextInt(4);
        for (int round = 0; round <= r; round++) {
            for (int dispute = 0; dispute < 4; dispute++) {
                answerAnyhow(x, dispute, random);
                if (x.ofDispute(dispute, 5) == 1) {
                    boolean isSame = x.digest(dispute, 2) == x.truth(0, middle(x, dispute));
                    x.choose(dispute, (dispute == right) == isSame ? 0 : 1);
                }
            }
            x.tick(1);
        }
        x.tick(30);
        int end = x.ofDispute(right, 2);
        CHECK.holds("the right disputer won or was dropped, not " + end, end == 2 || end == 3);
        CHECK.due("the claim is fallen", x.ofClaim(0, 2), 2);
        CHECK.due("claimant's purse", x.purse(0), 900 + 50 * lost(x));
        CHECK.due("the right disputer's purse", x.purse(right + 1), end == 2 ? 1100 : 1000);
    }

    private static void answerAnyhow(DisputeHalving x, int dispute, Random random) {
        int turn = x.ofDispute(dispute, 5);
        if (turn == 0 && random.nextInt(12) != 0) {
            x.tell(dispute, x.truth(0, middle(x, dispute)) + random.nextInt(2));
        } else if (turn == 2 && random.nextInt(4) != 0) {
            // the right PAPER, another STEP's, or one with a CELL that nobody asked for
            x.write(0, x.ofDispute(dispute, 3) ^ random.nextInt(2));
            if (random.nextInt(3) == 0) {
                x.cell(random.nextInt(16), 1, 2, 3, 4, 5);
            }
            x.prove(dispute);
        }
    }

    private static int lost(DisputeHalving x) {
        int lost = 0;
        for (int dispute = 0; dispute < 4; dispute++) {
            lost += x.ofDispute(dispute, 2) == 1 ? 1 : 0;
        }
        return lost;
    }
}
