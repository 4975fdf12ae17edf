/** Promises 7 to 12: playerOf, lotOf, roundOf, record, count, winner. */
public final class LookTest {
    private static final Due D = new Due("LookTest");

    public static void main(String[] args) {
        playerOf();
        lotOf();
        roundOf();
        latestTwelveRounds();
        record();
        manyPairs();
        count();
        winner();
        D.end();
    }

    private static void playerOf() {
        HiddenBids x = Due.game(3, 10, 5, 5, 5, 5);
        x.set(1, 1);
        Due.round(x, 4, 2, 0);
        Due.round(x, 3, 3, 1);
        Due.round(x, 1, 5, 0);
        x.bid(2, 0);
        int[][] due = {{8, 5, 0, 1, 6, 4}, {5, 10, 0, 1, 7, 2}, {16, 0, 1, 0, 0, 6}};
        for (int player = 0; player < 3; player++) {
            for (int what = 0; what <= 5; what++) {
                D.due("7: playerOf(" + player + ", " + what + ")", x.playerOf(player, what), due[player][what]);
            }
        }
        D.due("7: one is left in the pot", x.count(4), 1);
        D.due("7: player 3", x.playerOf(3, 0), Due.INVALID);
        D.due("7: player -1", x.playerOf(-1, 0), Due.INVALID);
        D.due("7: what -1", x.playerOf(0, -1), Due.INVALID);
        D.due("7: what 6", x.playerOf(0, 6), Due.INVALID);
        D.due("7: extreme", x.playerOf(Integer.MIN_VALUE, Integer.MAX_VALUE), Due.INVALID);
    }

    private static void lotOf() {
        HiddenBids x = Due.game(2, 10, 5, -6, 7, 8);
        D.due("8: next", x.lotOf(0, 0), 5);
        D.due("8: last", x.lotOf(0, 3), 8);
        D.due("8: no more", x.lotOf(0, 4), Due.NONE);
        D.due("8: empty table", x.lotOf(1, 0), Due.NONE);
        Due.round(x, 1, 1);
        Due.round(x, 1, 1);
        D.due("8: table first", x.lotOf(1, 0), 5);
        D.due("8: table second", x.lotOf(1, 1), -6);
        D.due("8: table no more", x.lotOf(1, 2), Due.NONE);
        D.due("8: row", x.lotOf(0, 0), 7);
        D.due("8: row no more", x.lotOf(0, 2), Due.NONE);
        Due.round(x, 2, 1);
        D.due("8: empty again", x.lotOf(1, 0), Due.NONE);
        D.due("8: the last one", x.lotOf(0, 0), 8);
        D.due("8: where -1", x.lotOf(-1, 0), Due.INVALID);
        D.due("8: where 2", x.lotOf(2, 0), Due.INVALID);
        D.due("8: index -1", x.lotOf(0, -1), Due.INVALID);
        D.due("8: great index", x.lotOf(0, Integer.MAX_VALUE), Due.NONE);
        D.due("8: great index of the table", x.lotOf(1, Integer.MAX_VALUE), Due.NONE);
        D.due("8: invalid first", x.lotOf(2, Integer.MAX_VALUE), Due.INVALID);
    }

    private static void roundOf() {
        HiddenBids x = Due.game(3, 10, 5, -2, 9);
        D.due("9: none yet", x.roundOf(0, 0), Due.NONE);
        D.due("9: invalid first", x.roundOf(0, 4), Due.INVALID);
        Due.round(x, 4, 1, 4);
        Due.round(x, 0, 7, 3);
        int[] whats = {0, 1, 2, 3, 10, 11, 12};
        int[] latest = {1, 7, 3, 1, 0, 7, 3};
        int[] first = {-1, 4, 5, 2, 4, 1, 4};
        for (int i = 0; i < whats.length; i++) {
            D.due("9: roundOf(0, " + whats[i] + ")", x.roundOf(0, whats[i]), latest[i]);
            D.due("9: roundOf(1, " + whats[i] + ")", x.roundOf(1, whats[i]), first[i]);
        }
        D.due("9: no third", x.roundOf(2, 0), Due.NONE);
        D.due("9: great back", x.roundOf(Integer.MAX_VALUE, 0), Due.NONE);
        D.due("9: back -1", x.roundOf(-1, 0), Due.INVALID);
        int[] wrong = {-1, 4, 9, 13, 14, Integer.MIN_VALUE, Integer.MAX_VALUE};
        for (int what : wrong) D.due("9: what " + what, x.roundOf(0, what), Due.INVALID);
    }

    private static void latestTwelveRounds() {
        HiddenBids x = new HiddenBids();
        x.set(0, 0);
        for (int round = 0; round < 25; round++) {
            x.lot(0);
            if (round % 2 == 0) Due.round(x, 2, 2);
            else Due.round(x, 1, 0);
            int kept = Math.min(round + 1, 12);
            for (int back = 0; back < kept; back++) {
                D.due("9: a bid of round " + (round - back), x.roundOf(back, 10), 2 - (round - back) % 2);
            }
            D.due("9: the latest 12 are kept", x.roundOf(kept, 0), Due.NONE);
        }
        D.due("9: all rounds count", x.count(5), 25);
    }

    private static void record() {
        HiddenBids x = Due.game(2, 20, 1, 1, 1, 1, 1);
        D.due("10: none yet", x.record(0, 0), Due.NONE);
        x.bid(0, 5);
        D.due("10: not before it is resolved", x.record(0, 0), Due.NONE);
        Due.round(x, 5, 3);
        Due.round(x, 3, 5);
        Due.round(x, 5, 5);
        Due.round(x, 5, 4);
        int[][] due = {{0, 5, 3, 2}, {1, 3, 1, 0}, {0, 3, 1, 0}, {1, 5, 2, 1}, {1, 4, 1, 0}};
        for (int index = 0; index < due.length; index++) {
            for (int what = 0; what <= 3; what++) {
                D.due("10: record(" + index + ", " + what + ")", x.record(index, what), due[index][what]);
            }
        }
        D.due("10: no more", x.record(5, 0), Due.NONE);
        D.due("10: great index", x.record(Integer.MAX_VALUE, 3), Due.NONE);
        D.due("10: index -1", x.record(-1, 0), Due.INVALID);
        D.due("10: what -1", x.record(0, -1), Due.INVALID);
        D.due("10: what 4", x.record(0, 4), Due.INVALID);
        D.due("10: invalid first", x.record(5, 4), Due.INVALID);
        x.begin(2, 20);
        D.due("10: of this game", x.record(0, 0), Due.NONE);
        x.lot(1);
        Due.round(x, 0, 5);
        D.due("10: counted anew", x.record(0, 2), 1);
        D.due("10: won anew", x.record(0, 3), 0);
    }

    private static void manyPairs() {
        HiddenBids x = Due.game(4, 30);
        x.set(0, 0);
        for (int bid = 0; bid < 19; bid++) pairRound(x, 4 * bid + 4, bid, bid, bid, bid);
        pairRound(x, 80, 25, 21, 22, 23);
        D.due("10: coins of the others", x.playerOf(1, 0), 38);
        for (int bid = 24; bid <= 38; bid++) pairRound(x, 83 + 3 * (bid - 24), 0, bid, bid, bid);
        D.due("10: the first pair has changed", x.record(0, 2), 16);
        D.due("10: a pair in the middle", x.record(77, 1), 21);
    }

    private static void pairRound(HiddenBids x, int pairs, int... bids) {
        x.lot(0);
        Due.round(x, bids);
        D.due("10: pairs", x.count(9), pairs);
        D.due("10: the latest pair's player", x.record(pairs - 1, 0), 3);
        D.due("10: the latest pair's bid", x.record(pairs - 1, 1), bids[3]);
        D.due("10: there is no other", x.record(pairs, 0), Due.NONE);
    }

    private static void count() {
        HiddenBids x = Due.game(3, 10, 4, -7, 6, 1);
        x.set(0, 2);
        x.set(1, 3);
        x.set(2, 0);
        Due.round(x, 5, 5, 0);
        Due.round(x, 2, 2, 2);
        x.bid(1, 0);
        Due.write(x, "abc");
        int[] due = {3, 2, 2, -3, 10, 2, 2, 1, 30, 6, 4, 3, 0};
        for (int what = 0; what < due.length; what++) D.due("11: count(" + what + ")", x.count(what), due[what]);
        D.due("11: setting 0", x.count(20), 2);
        D.due("11: setting 1", x.count(21), 3);
        D.due("11: setting 2", x.count(22), 0);
        x.keep();
        D.due("11: a snapshot", x.count(12), 1);
        x.bid(0, 1);
        x.bid(2, 0);
        x.resolve();
        D.due("11: won", x.count(6), 2);
        D.due("11: rounds", x.count(5), 3);
        D.due("11: nothing on the table", x.count(3), 0);
        int[] wrong = {-1, 13, 19, 23, Integer.MIN_VALUE, Integer.MAX_VALUE};
        for (int what : wrong) D.due("11: count(" + what + ")", x.count(what), Due.INVALID);
    }

    private static void winner() {
        HiddenBids x = Due.game(4, 10, 5, 5, 7);
        D.due("12: the lowest number", x.winner(), 0);
        Due.round(x, 0, 0, 3, 0);
        D.due("12: the most points", x.winner(), 2);
        Due.round(x, 0, 1, 0, 0);
        D.due("12: of several the most coins", x.winner(), 1);
        Due.round(x, 0, 0, 0, 4);
        D.due("12: not the coins alone", x.winner(), 3);
        HiddenBids y = Due.game(3, 10, -4);
        Due.round(y, 2, 0, 0);
        D.due("12: 0 is more than less", y.winner(), 1);
        HiddenBids z = Due.game(3, 10, 0);
        Due.round(z, 2, 0, 0);
        D.due("12: the lowest of those with the most coins", z.winner(), 1);
    }
}
