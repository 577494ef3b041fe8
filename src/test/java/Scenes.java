/** Objects in states that several tests begin with. */
final class Scenes {
    private Scenes() {
    }

    /** A BATCH that adds for ever, of 2 to the power of r STEPS; its number. */
    static int adder(DisputeHalving x, int r) {
        x.instruction(1, 0, 1, 0);
        x.instruction(9, 1, 0, 0);
        return x.batch(0, 3, 0, 0, r);
    }

    /** BATCH 0 alone, which adds for ever. */
    static DisputeHalving withAdder(int r) {
        DisputeHalving x = new DisputeHalving();
        adder(x, r);
        return x;
    }

    /**
     * Something of everything: BATCHES 0 (4 STEPS) and 1 (1 STEP); CLAIM 0 with DISPUTES 0 (to TELL), 1 (to
     * CHOOSE), 3 (the claimant won); CLAIM 1, of BATCH 1, with DISPUTE 2 (to PROVE); CLAIM 2 without any; a DRAFT
     * of two; THE PAPER right for STEP 2 of BATCH 0; time 12.
     */
    static DisputeHalving busy() {
        DisputeHalving x = new DisputeHalving();
        adder(x, 2);
        adder(x, 0);
        x.instruction(0, 6, 0, 41);
        x.instruction(3, 6, 2, 0);
        x.claim(0, 0, x.truth(0, 4));
        x.claim(1, 1, 99);
        x.tick(3);
        x.claim(2, 0, 98);
        x.dispute(3, 0);
        x.dispute(4, 0);
        x.dispute(5, 1);
        x.dispute(6, 0);
        x.tell(1, 44);
        x.tell(3, x.truth(0, 2));
        x.choose(3, 0);
        x.tell(3, x.truth(0, 3));
        x.choose(3, 1);
        x.tick(4);
        x.write(0, 2);
        x.prove(3);
        x.tick(5);
        return x;
    }

    /** 40 CLAIMS of BATCH 0, five by each PLAYER. */
    static DisputeHalving fortyClaims() {
        DisputeHalving x = withAdder(1);
        for (int i = 0; i < 40; i++) {
            x.claim(i % 8, 0, i);
        }
        return x;
    }

    /** 80 DISPUTES, four at each of the CLAIMS 0 .. 19 by PLAYERS 0 .. 3; CLAIM 20 by PLAYER 0 has none. */
    static DisputeHalving eightyDisputes() {
        DisputeHalving x = withAdder(1);
        for (int i = 0; i < 21; i++) {
            x.claim(i % 4, 0, i);
        }
        for (int i = 0; i < 80; i++) {
            x.dispute(4 + i % 4, i / 4);
        }
        return x;
    }

    /** CLAIM 0 by PLAYER 0, of BATCH 0 with its true DIGEST, and these many DISPUTES of it by PLAYERS 1, 2 .. */
    static DisputeHalving disputed(int r, int disputes) {
        DisputeHalving x = withAdder(r);
        x.claim(0, 0, x.truth(0, 1 << r));
        for (int player = 1; player <= disputes; player++) {
            x.dispute(player, 0);
        }
        return x;
    }

    /** The same CLAIM, of one STEP, FALLEN by a wrong PAPER in DISPUTE 1; DISPUTE 0 is DROPPED. */
    static DisputeHalving fallen() {
        DisputeHalving x = disputed(0, 2);
        x.paper(0, 0);
        x.prove(1);
        return x;
    }

    static DisputeHalving cleared() {
        DisputeHalving x = busy();
        x.clear();
        return x;
    }

    /** CLAIM 0 FALLEN with the claimant's 30th TICK in DISPUTE 0; 1, the disputer's turn, and 2 are DROPPED. */
    static DisputeHalving lostByTime() {
        DisputeHalving x = disputed(1, 3);
        x.tell(1, 9);
        x.tick(30);
        return x;
    }
}
