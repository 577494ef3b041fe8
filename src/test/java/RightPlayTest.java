import java.util.Random;

/** Who answers rightly in time never loses: right claimants and right disputers in many games. */
public final class RightPlayTest {
    private static final Check CHECK = new Check("RightPlayTest");

    public static void main(String[] args) {
        for (int seed = 0; seed < 400; seed++) {
            Random random = new Random(seed);
            rightClaimant(random, seed % 11);
            rightDisputer(random, seed % 11);
        }
        CHECK.end();
    }

    private static DisputeHalving anyBatch(Random random, int r) {
        DisputeHalving x = new DisputeHalving();
        int length = 1 + random.nextInt(24);
        for (int i = 0; i < length; i++) {
            x.instruction(random.nextInt(10), random.nextInt(16), random.nextInt(16), random.nextInt(length + 1));
        }
        x.batch(random.nextInt(), random.nextInt(9), random.nextInt(), 1, r);
        return x;
    }

    private static void rightClaimant(Random random, int r) {
        DisputeHalving x = anyBatch(random, r);
        x.claim(0, 0, x.truth(0, 1 << r));
        x.dispute(1, 0);
        x.dispute(2, 0);
        for (int dispute = 0; dispute < 2; dispute++) {
            for (int i = 0; i < r; i++) {
                int middle = (x.ofDispute(dispute, 3) + x.ofDispute(dispute, 4)) / 2;
                CHECK.due("tell", x.tell(dispute, x.truth(0, middle)), middle);
                CHECK.due("choose", x.choose(dispute, random.nextInt(2)), 1 << (r - 1 - i));
                x.tick(1);
            }
            CHECK.holds("write", x.write(0, x.ofDispute(dispute, 3)) >= 0);
            CHECK.due("prove", x.prove(dispute), 1);
        }
        CHECK.due("the claim is open", x.ofClaim(0, 2), 0);
        x.tick(40);
        CHECK.due("the claim is accepted", x.ofClaim(0, 2), 1);
        CHECK.due("claimant's purse", x.purse(0), 1100);
    }

    private static void rightDisputer(Random random, int r) {
        DisputeHalving x = anyBatch(random, r);
        x.claim(0, 0, x.truth(0, 1 << r) + 1 + random.nextInt(9));
        x.dispute(1, 0);
        for (int i = 0; i < r; i++) {
            int middle = (x.ofDispute(0, 3) + x.ofDispute(0, 4)) / 2;
            long truth = x.truth(0, middle);
            long told = truth + random.nextInt(2);
            x.tell(0, told);
            x.choose(0, told == truth ? 0 : 1);
            x.tick(2);
        }
        x.write(0, x.ofDispute(0, 3));
        CHECK.due("judge", x.judge(0, x.digest(0, 0), x.digest(0, 1)), 4);
        CHECK.due("prove", x.prove(0), 0);
        CHECK.due("the claim is fallen", x.ofClaim(0, 2), 2);
        CHECK.due("disputer's purse", x.purse(1), 1100);
        CHECK.due("claimant's purse", x.purse(0), 900);
    }
}
