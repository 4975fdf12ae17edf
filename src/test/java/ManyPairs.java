import java.util.Arrays;
import java.util.HashSet;
import java.util.Set;

/** A game with as many different bids as its coins and calls allow, played beside Model. */
final class ManyPairs {
    private static final int ROUNDS = 80;
    private static final int PAIRS = 180;
    private static final int CALLS_BEHIND = 90;

    private final Model model = new Model();
    private final HiddenBids program = new HiddenBids();

    private ManyPairs() {
        program.begin(4, 30);
        model.begin(4, 30);
        program.set(0, 0);
        model.set(0, 0);
        program.lot(0);
        model.lot(0);
        Due.write(program, "r;l0;");
        for (char one : "r;l0;".toCharArray()) model.type(one);
        Set<Integer> made = new HashSet<>();
        for (int round = 0; round < ROUNDS; round++) round(made);
    }

    private void round(Set<Integer> made) {
        int[] bids = new int[4];
        for (int player = 0; player < 4; player++) bids[player] = newBid(made, player);
        if (model.count(2) >= 18) breakTie(bids);
        for (int player = 0; player < 4; player++) {
            made.add(1000 * player + bids[player]);
            program.bid(player, bids[player]);
            model.bid(player, bids[player]);
        }
        program.play();
        model.play();
    }

    /** The table would be full otherwise. */
    private void breakTie(int[] bids) {
        int greatest = Arrays.stream(bids).max().orElse(0);
        if (Arrays.stream(bids).filter(bid -> bid == greatest).count() == 1) return;
        int richest = 0;
        for (int player = 1; player < 4; player++) {
            if (model.playerOf(player, 0) > model.playerOf(richest, 0)) richest = player;
        }
        boolean canBidMore = model.playerOf(richest, 0) > greatest;
        if (!canBidMore) Arrays.fill(bids, 0);
        bids[richest] = canBidMore ? greatest + 1 : 1;
    }

    /** The greatest one that the player has not made yet, 0 if there is none. */
    private int newBid(Set<Integer> made, int player) {
        int bid = model.playerOf(player, 0);
        while (bid > 0 && made.contains(1000 * player + bid)) bid--;
        return bid;
    }

    /** Each object answers for a stretch of the pairs, so that it comes to no more than 512 calls. */
    static void compare(Edges e, int what) {
        for (int first = 0; first <= PAIRS; first += CALLS_BEHIND) {
            ManyPairs many = new ManyPairs();
            e.due("pairs", many.program.count(9), PAIRS);
            many.program.keep();
            many.program.begin(2, 0);
            many.program.restore();
            for (int n = first; n < first + CALLS_BEHIND && n <= PAIRS; n++) {
                e.due("record(" + n + ", " + what + ")", many.program.record(n, what), many.model.record(n, what));
            }
        }
    }
}
