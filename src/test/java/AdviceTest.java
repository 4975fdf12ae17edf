/** Promises 13 to 17: sure, reply, holds, holding, chance. */
public final class AdviceTest {
    private static final Due D = new Due("AdviceTest");

    public static void main(String[] args) {
        sure();
        reply();
        replyLooksAtCoins();
        replyAmongThree();
        holdsOneRound();
        holdsTwoRounds();
        holdsRefused();
        holding();
        chance();
        D.end();
    }

    private static void sure() {
        HiddenBids x = Due.game(3, 10);
        D.due("13: over", x.sure(0), Due.IMPOSSIBLE);
        D.due("13: no such player first", x.sure(3), Due.INVALID);
        D.due("13: player -1", x.sure(-1), Due.INVALID);
        x.lot(5);
        x.lot(-5);
        D.due("13: nobody for sure", x.sure(0), Due.NONE);
        Due.round(x, 4, 1, 0);
        D.due("13: as many as another one are not enough", x.sure(1), Due.NONE);
        D.due("13: nor are fewer", x.sure(0), Due.NONE);
        x = Due.game(3, 10, 5, 5, 5);
        x.set(2, 0);
        Due.round(x, 4, 1, 0);
        Due.round(x, 0, 3, 2);
        D.due("13: 10 against 6 and 7", x.sure(2), 8);
        x.bid(0, 0);
        x.bid(1, 0);
        D.due("13: bids made do not matter", x.sure(2), 8);
        D.due("13: the others have none", x.sure(1), Due.NONE);
        Due.round(x, 0, 0, 7);
        D.due("13: over again", x.sure(1), Due.IMPOSSIBLE);
        x.lot(-2);
        D.due("13: above the first one", x.sure(1), 7);
        HiddenBids y = Due.game(2, 1, 3, 3);
        y.set(2, 0);
        Due.round(y, 1, 0);
        D.due("13: all the own coins", y.sure(1), 1);
        HiddenBids z = Due.game(2, 0, 3);
        D.due("13: without coins", z.sure(0), Due.NONE);
    }

    private static void reply() {
        HiddenBids x = Due.game(2, 20);
        D.due("14: over", x.reply(0), Due.IMPOSSIBLE);
        D.due("14: no such player first", x.reply(2), Due.INVALID);
        D.due("14: player -1", x.reply(-1), Due.INVALID);
        x.lot(5);
        D.due("14: no bid of the other one", x.reply(0), Due.IMPOSSIBLE);
        x.bid(0, 9);
        D.due("14: the own bid is not enough", x.reply(0), Due.IMPOSSIBLE);
        D.due("14: one more", x.reply(1), 10);
        x.bid(0, 0);
        D.due("14: one more than 0", x.reply(1), 1);
        x.bid(0, 20);
        D.due("14: 0 as the most is out of reach", x.reply(1), 0);
        x.bid(1, 3);
        D.due("14: the other way round", x.reply(0), 4);
        D.due("14: nothing changed", x.playerOf(1, 0), 20);
        D.due("14: nor the bid", x.resolve(), 0);
        D.due("14: of 20", x.roundOf(0, 10), 20);
        D.due("14: nor the pot", x.playerOf(1, 0), 40);
        D.due("14: nor what is left there", x.count(4), 0);
        HiddenBids y = Due.game(2, 10, 5);
        y.bid(0, 9);
        D.due("14: all the own coins", y.reply(1), 10);
    }

    private static void replyLooksAtCoins() {
        HiddenBids x = Due.game(2, 10, -5, -5);
        x.bid(0, 4);
        D.due("14: below the bid, for the pot", x.reply(1), 0);
        x.set(1, 3);
        D.due("14: the fee comes back, so all are equal", x.reply(1), 0);
        x.bid(0, 0);
        D.due("14: 0 by 0 rather than to win", x.reply(1), 0);
        HiddenBids y = Due.game(2, 10, 0);
        y.bid(0, 4);
        D.due("14: for nothing", y.reply(1), 0);
        y.bid(0, 0);
        D.due("14: a tie by 0 costs nothing", y.reply(1), 0);
        HiddenBids z = Due.game(3, 10, 0, -2);
        z.set(1, 2);
        z.bid(0, 4);
        z.bid(1, 4);
        D.due("14: a tie of the others costs nothing", z.reply(2), 0);
        z.bid(1, 1);
        D.due("14: half of a fee is lost", z.reply(2), 0);
        z.bid(0, 0);
        z.bid(1, 0);
        D.due("14: 0 by 0 for nothing", z.reply(2), 0);
    }

    private static void replyAmongThree() {
        HiddenBids x = Due.game(3, 10, 4, 4);
        x.bid(2, 6);
        D.due("14: the first one is missing", x.reply(1), Due.IMPOSSIBLE);
        x.bid(0, 3);
        D.due("14: above all others", x.reply(1), 7);
        D.due("14: one is missing", x.reply(0), Due.IMPOSSIBLE);
        x.bid(1, 10);
        D.due("14: a tie is no gain", x.reply(0), 0);
        HiddenBids four = Due.game(4, 10, 4);
        for (int player = 0; player < 3; player++) four.bid(player, player);
        D.due("14: the last of four", four.reply(3), 3);
        HiddenBids y = Due.game(3, 10, 4, -6);
        Due.round(y, 2, 2, 0);
        y.bid(0, 1);
        y.bid(1, 0);
        D.due("14: all values on the table together", y.reply(2), 0);
        HiddenBids z = Due.game(2, 10, 6, -5);
        Due.round(z, 2, 2);
        z.bid(0, 1);
        D.due("14: 1 in all", z.reply(1), 2);
    }

    private static void holdsOneRound() {
        HiddenBids x = Due.game(2, 20, 5, 8);
        D.due("15: 0 rounds", x.holds(0, 0), 0);
        D.due("15: equal coins", x.holds(0, 1), 0);
        Due.round(x, 6, 2);
        D.due("15: 0 rounds ahead", x.holds(0, 0), 5);
        D.due("15: 0 rounds behind", x.holds(1, 0), -5);
        D.due("15: 1 round, fewer coins", x.holds(0, 1), -3);
        D.due("15: 1 round, more coins", x.holds(1, 1), 3);
        x.bid(0, 14);
        x.bid(1, 0);
        D.due("15: bids made do not matter", x.holds(1, 1), 3);
        x.resolve();
        D.due("15: over, by 1", x.holds(0, 1), 13);
        D.due("15: over, by 2", x.holds(1, 2), -13);
        HiddenBids y = Due.game(2, 20, 5, -8, 9);
        Due.round(y, 6, 2);
        D.due("15: nobody must take what costs points", y.holds(0, 1), 5);
        Due.round(y, 1, 1);
        D.due("15: what is on the table counts", y.holds(1, 1), -4);
    }

    private static void holdsTwoRounds() {
        HiddenBids x = Due.game(2, 3, 5, 4);
        D.due("15: two equal ones", x.holds(0, 2), 0);
        D.due("15: the other one too", x.holds(1, 2), 0);
        HiddenBids y = Due.game(2, 20, 5, 8, 9);
        Due.round(y, 6, 2);
        // 14 against 26 coins: a tie by 0 carries 8, and all 17 go to the richer one.
        D.due("15: 2 rounds with fewer coins", y.holds(0, 2), 5 - 17);
        // Who wins 8 loses 9 then, as the pot makes the other one the richer one: a low bid leaves 8 to that one.
        D.due("15: 2 rounds with more coins", y.holds(1, 2), -5 - 8 + 9);
        HiddenBids z = fiveAgainstTwo();
        D.due("15: both lots", z.holds(0, 2), 7);
        D.due("15: the other one loses both", z.holds(1, 2), -7);
        z.set(2, 1);
        D.due("15: the pot is shared with the loser", z.holds(0, 2), 3);
        HiddenBids last = Due.game(2, 20, 5, 8);
        Due.round(last, 6, 2);
        D.due("15: the row may end before", last.holds(1, 2), 3);
        HiddenBids one = Due.game(2, 5, 0, -2, 1);
        one.set(2, 0);
        Due.round(one, 0, 3);
        // Nobody must take the lot of -2: a tie by 0 carries it, and the two together are not worth a bid.
        D.due("15: what costs points is carried", one.holds(0, 2), 0);
        one.undo();
        one.begin(2, 5);
        one.lot(0);
        one.lot(5);
        one.lot(1);
        Due.round(one, 0, 3);
        D.due("15: 5 and 1", one.holds(0, 2), 6);
    }

    /** 5 against 2 coins, 3 in the pot, which is not shared, no points, and lots of 5 and 2. */
    private static HiddenBids fiveAgainstTwo() {
        HiddenBids x = Due.game(2, 5, 0, 5, 2);
        x.set(2, 0);
        Due.round(x, 0, 3);
        return x;
    }

    private static void holdsRefused() {
        HiddenBids x = Due.game(3, 20, 5);
        D.due("15: three players", x.holds(0, 0), Due.IMPOSSIBLE);
        D.due("15: invalid first", x.holds(3, 0), Due.INVALID);
        D.due("15: depth first", x.holds(0, 3), Due.INVALID);
        D.due("16: three players", x.holding(2, 1), Due.IMPOSSIBLE);
        D.due("16: invalid first", x.holding(0, 0), Due.INVALID);
        HiddenBids y = new HiddenBids();
        D.due("15: player 2", y.holds(2, 0), Due.INVALID);
        D.due("15: player -1", y.holds(-1, 0), Due.INVALID);
        D.due("15: depth -1", y.holds(0, -1), Due.INVALID);
        D.due("15: depth 3", y.holds(0, 3), Due.INVALID);
        D.due("15: over is possible", y.holds(1, 2), 0);
        D.due("16: over is not", y.holding(1, 2), Due.IMPOSSIBLE);
        D.due("16: depth 0", y.holding(0, 0), Due.INVALID);
        D.due("16: depth 3", y.holding(0, 3), Due.INVALID);
        D.due("16: player 2", y.holding(2, 1), Due.INVALID);
        D.due("16: player -1", y.holding(-1, 1), Due.INVALID);
    }

    private static void holding() {
        HiddenBids x = Due.game(2, 20, 5, 8, 9);
        D.due("16: equal coins: all of them", x.holding(0, 1), 20);
        Due.round(x, 6, 2);
        D.due("16: one more than the other one has", x.holding(1, 1), 15);
        D.due("16: nothing helps, so the least", x.holding(0, 1), 0);
        x.bid(0, 3);
        D.due("16: bids made do not matter", x.holding(1, 1), 15);
        D.due("16: nor are they changed", x.bid(1, 0), 2);
        HiddenBids y = Due.game(2, 20, -5, 3);
        D.due("16: 0 for what costs points", y.holding(0, 1), 0);
        HiddenBids z = fiveAgainstTwo();
        D.due("16: one round", z.holding(0, 1), 3);
        D.due("16: two rounds: a tie by 2 leaves more for both lots", z.holding(0, 2), 2);
        D.due("16: nothing helps by two", z.holding(1, 2), 0);
    }

    private static void chance() {
        HiddenBids x = Due.game(3, 10);
        D.due("17: no lots, no points", x.chance(0), 0);
        D.due("17: player 3", x.chance(3), Due.INVALID);
        D.due("17: player -1", x.chance(-1), Due.INVALID);
        x.lot(5);
        x.lot(-9);
        x.lot(4);
        D.due("17: all have one", x.chance(2), 1);
        Due.round(x, 1, 0, 0);
        D.due("17: 4 against 5", x.chance(1), 0);
        D.due("17: the first is ahead", x.chance(0), 1);
        x.lot(1);
        D.due("17: equal is not more", x.chance(1), 0);
        x.lot(1);
        D.due("17: 6 against 5, without what is below 0", x.chance(1), 1);
        HiddenBids y = Due.game(2, 10, 3, 4);
        Due.round(y, 1, 0);
        Due.round(y, 2, 2);
        D.due("17: what is on the table counts", y.chance(1), 1);
        HiddenBids z = Due.game(2, 10, -3);
        Due.round(z, 1, 0);
        D.due("17: over and ahead", z.chance(1), 1);
        D.due("17: over and behind", z.chance(0), 0);
    }
}
