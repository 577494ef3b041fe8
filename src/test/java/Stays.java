import java.util.ArrayList;
import java.util.List;
import java.util.function.Supplier;

/**
 * What a refused call leaves as it was. Of two objects that were made by the same calls one gets the
 * refused call besides; then all that can be seen of both, now and later, has to be alike.
 *
 * A look changes what it looks at and an object answers 512 calls only, so each look has objects of its own.
 */
final class Stays {
    /** A call on an object, with its answer. */
    interface Call {
        long on(DisputeHalving x);
    }

    private interface Look {
        List<Long> at(DisputeHalving x);
    }

    private static final int DISPUTES_A_LOOK = 20;

    private final Check check;
    private final List<Look> looks = new ArrayList<>();

    Stays(Check check) {
        this.check = check;
        looks.add(Stays::money);
        looks.add(Stays::claims);
        looks.add(Stays::batches);
        looks.add(Stays::draftLength);
        looks.add(Stays::draft);
        looks.add(Stays::later);
        for (int from = 0; from < 80; from += DISPUTES_A_LOOK) {
            int first = from;
            looks.add(x -> disputes(x, first));
        }
        for (int k = 0; k < 16; k++) {
            int cell = k;
            looks.add(x -> paper(x, cell));
        }
    }

    /** Each of these calls answers what is due and leaves the object as it was. */
    void behind(String sentence, Supplier<DisputeHalving> made, long due, Call... calls) {
        // one by one: a later call could put right what an earlier one spoilt
        for (int i = 0; i < calls.length; i++) {
            for (int look = 0; look < looks.size(); look++) {
                String name = sentence + ": call " + i;
                DisputeHalving with = made.get();
                DisputeHalving without = made.get();
                check.due(name, calls[i].on(with), due);
                List<Long> seen = looks.get(look).at(with);
                List<Long> want = looks.get(look).at(without);
                check.holds(name + ": look " + look + " is " + want + ", not " + seen, seen.equals(want));
            }
        }
    }

    private static List<Long> money(DisputeHalving x) {
        List<Long> seen = new ArrayList<>();
        for (int player = 0; player < 8; player++) {
            seen.add((long) x.purse(player));
        }
        seen.add((long) x.sum());
        seen.add((long) x.tick(0));
        seen.add((long) x.clear());
        return seen;
    }

    private static List<Long> claims(DisputeHalving x) {
        List<Long> seen = new ArrayList<>();
        for (int claim = 0; claim <= 40; claim++) {
            for (int what = 0; what < 5; what++) {
                seen.add((long) x.ofClaim(claim, what));
            }
        }
        return seen;
    }

    private static List<Long> disputes(DisputeHalving x, int from) {
        List<Long> seen = new ArrayList<>();
        for (int dispute = from; dispute < from + DISPUTES_A_LOOK; dispute++) {
            for (int what = 0; what < 9; what++) {
                seen.add((long) x.ofDispute(dispute, what));
            }
            for (int what = 0; what < 3; what++) {
                seen.add(x.digest(dispute, what));
            }
        }
        return seen;
    }

    private static List<Long> batches(DisputeHalving x) {
        List<Long> seen = new ArrayList<>();
        int[] steps = {0, 1, 2, 3, 4, 1024};
        for (int batch = 0; batch < 8; batch++) {
            for (int s : steps) {
                seen.add(x.truth(batch, s));
                seen.add((long) x.state(batch, s, 17));
            }
        }
        return seen;
    }

    /** How many INSTRUCTIONS there are, if there is room for one more. */
    private static List<Long> draftLength(DisputeHalving x) {
        return List.of((long) x.instruction(0, 5, 0, 77));
    }

    /** What THE DRAFT's INSTRUCTIONS do, if there are any and a BATCH is free. */
    private static List<Long> draft(DisputeHalving x) {
        List<Long> seen = new ArrayList<>();
        int batch = x.batch(2, 3, 5, 7, 5);
        seen.add((long) batch);
        for (int s = 0; s <= 32; s++) {
            seen.add(x.truth(batch, s));
        }
        return seen;
    }

    /** Whether CELL k is there or there is no room, and which STEPS THE PAPER is GOOD for. */
    private static List<Long> paper(DisputeHalving x, int k) {
        List<Long> seen = new ArrayList<>();
        for (int batch = 0; batch < 8; batch++) {
            for (int s = 0; s < 4; s++) {
                seen.add((long) x.judge(batch, x.truth(batch, s), x.truth(batch, s + 1)));
            }
        }
        seen.add((long) x.cell(k, 1, 2, 3, 4, 5));
        return seen;
    }

    /** What comes by time alone: deposits that go, CLAIMS that are ACCEPTED. */
    private static List<Long> later(DisputeHalving x) {
        List<Long> seen = new ArrayList<>();
        for (int i = 0; i < 41; i++) {
            seen.add((long) x.tick(1));
            for (int player = 0; player < 8; player++) {
                seen.add((long) x.purse(player));
            }
        }
        return seen;
    }
}
