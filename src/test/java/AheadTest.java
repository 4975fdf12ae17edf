import java.util.Random;

/**
 * Promises 15 and 16 in games of up to 60 coins, always the same ones, where ModelTest does not look two rounds ahead:
 * all bids are tried on mere numbers here.
 */
public final class AheadTest {
    private static final Due D = new Due("AheadTest");

    private final Random random;
    private final HiddenBids program = new HiddenBids();
    private int tieFee;
    private int othersFee;
    private boolean isShared;
    private int[] row = {};

    private AheadTest(int game) {
        random = new Random(game);
    }

    public static void main(String[] args) {
        for (int game = 0; game < 1500; game++) new AheadTest(game).run("game " + game);
        D.end();
    }

    private void run(String game) {
        play();
        row = new int[program.count(1)];
        for (int n = 0; n < row.length; n++) row[n] = program.lotOf(0, n);
        for (int player = 0; player < 2; player++) {
            for (int depth = 1; depth <= 2; depth++) {
                String call = "(" + player + ", " + depth + ")";
                int[] due = look(player, depth);
                D.due("15, 16: " + game + ": holds" + call, program.holds(player, depth), due[0]);
                D.due("15, 16: " + game + ": holding" + call, program.holding(player, depth), due[1]);
            }
        }
    }

    /** Some lots, of which up to three are played; the pot is shared or not then, so that coins may be in it. */
    private void play() {
        program.begin(2, random.nextInt(31));
        tieFee = random.nextInt(6);
        othersFee = random.nextInt(6);
        program.set(0, tieFee);
        program.set(1, othersFee);
        program.set(2, random.nextInt(2));
        for (int lots = random.nextInt(6); lots >= 0; lots--) program.lot(random.nextInt(30) - 9);
        for (int rounds = random.nextInt(4); rounds > 0; rounds--) Due.round(program, someBid(0), someBid(1));
        isShared = random.nextBoolean();
        program.set(2, isShared ? 1 : 0);
    }

    private int someBid(int player) {
        int coins = program.playerOf(player, 0);
        return random.nextInt(Math.min(coins, random.nextBoolean() ? 2 : coins) + 1);
    }

    private int[] look(int player, int depth) {
        int ahead = program.playerOf(player, 1) - program.playerOf(1 - player, 1);
        int[] held = held(program.playerOf(player, 0), program.playerOf(1 - player, 0), program.count(4),
            program.count(3), 0, depth);
        return new int[] {ahead + held[0], row.length == 0 ? Due.IMPOSSIBLE : held[1]};
    }

    /** What is held beside the points there are, and the least bid for that. */
    private int[] held(int own, int others, int pot, int table, int round, int depth) {
        if (depth == 0 || round == row.length) return new int[] {0, 0};
        int[] most = {Integer.MIN_VALUE, 0};
        for (int bid = 0; bid <= own; bid++) {
            int least = Integer.MAX_VALUE;
            for (int other = 0; other <= others; other++) {
                least = Math.min(least, heldBehind(own, others, pot, table, round, depth, bid, other));
            }
            if (least > most[0]) most = new int[] {least, bid};
        }
        return most;
    }

    private int heldBehind(int own, int others, int pot, int table, int round, int depth, int bid, int other) {
        int stake = table + row[round];
        if (bid == other) {
            int fee = Math.min(tieFee, bid);
            return held(own - fee, others - fee, pot + 2 * fee, stake, round + 1, depth - 1)[0];
        }
        int fee = Math.min(othersFee, Math.min(bid, other));
        int full = pot + Math.max(bid, other) + fee;
        int shared = isShared ? full : 0;
        if (bid > other) {
            return stake + held(own - bid, others - fee + shared, full - shared, 0, round + 1, depth - 1)[0];
        }
        return held(own - fee + shared, others - other, full - shared, 0, round + 1, depth - 1)[0] - stake;
    }
}
