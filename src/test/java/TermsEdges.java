import java.util.function.ToIntFunction;

/** The sentences of "What it is" and of "Terms" up to the settings. */
final class TermsEdges {
    // 20 points for player 0 and -9 for player 1; both have as many coins then as before.
    private static final String LONG_TEXT = "l20;b0,1;b1,0;r;l-9;b0,0;b1,1;r;";
    private static final int TIMES = 511 - 1 - LONG_TEXT.length();

    private final Edges e;

    private TermsEdges(Edges e) {
        this.e = e;
    }

    static void test(Edges e) {
        TermsEdges edges = new TermsEdges(e);
        edges.numberOfCalls();
        edges.divisions();
        edges.playersAndLots();
        edges.endOfTheGame();
        edges.bidsOfARound();
        edges.wonRounds();
        edges.sharedPot();
        edges.tiedRounds();
        edges.lookingAhead();
        edges.settings();
    }

    private void numberOfCalls() {
        e.section("What it is");
        e.says("An object is used for at most 512 calls after it has been made");
        last("begin", x -> x.begin(4, 30), 120);
        last("lot", x -> x.lot(5), 1);
        last("bid", x -> x.bid(0, 0), Due.IMPOSSIBLE);
        last("resolve", x -> x.resolve(), Due.IMPOSSIBLE);
        last("set", x -> x.set(0, 5), 1);
        last("coins", x -> x.playerOf(0, 0), 20);
        last("points", x -> x.playerOf(0, 1), 20 * TIMES);
        last("points below 0", x -> x.playerOf(1, 1), -9 * TIMES);
        last("rounds won", x -> x.playerOf(1, 3), TIMES);
        last("coins paid", x -> x.playerOf(0, 4), TIMES);
        last("coins got", x -> x.playerOf(1, 5), TIMES);
        last("lotOf", x -> x.lotOf(0, 0), Due.NONE);
        last("roundOf", x -> x.roundOf(11, 2), 20);
        last("how often", x -> x.record(0, 2), TIMES);
        last("how often won", x -> x.record(3, 3), TIMES);
        last("rounds", x -> x.count(5), 2 * TIMES);
        last("pairs", x -> x.count(9), 4);
        last("winner", x -> x.winner(), 0);
        last("sure", x -> x.sure(0), Due.IMPOSSIBLE);
        last("reply", x -> x.reply(0), Due.IMPOSSIBLE);
        last("holds", x -> x.holds(0, 2), 29 * TIMES);
        last("holding", x -> x.holding(0, 2), Due.IMPOSSIBLE);
        last("chance", x -> x.chance(1), 0);
        last("keep", x -> x.keep(), 2 * TIMES);
        last("restore", x -> x.restore(), Due.IMPOSSIBLE);
        last("undo", x -> x.undo(), 3);
        last("type", x -> x.type('l'), LONG_TEXT.length() + 1);
        last("clearText", x -> x.clearText(), LONG_TEXT.length());
        last("fault", x -> x.fault(0), Due.NONE);
        last("play", x -> x.play(), 8);
        e.says("what later calls answer is free");
        HiddenBids later = afterManyCalls();
        for (int n = 0; n < 2000; n++) {
            later.play();
            later.lot(n % 20);
            later.bid(n % 2, 1);
            later.resolve();
            later.keep();
            later.undo();
        }
        e.due("but they end", 1, 1);
    }

    private void last(String call, ToIntFunction<HiddenBids> answer, int want) {
        e.due("call 512, " + call, answer.applyAsInt(afterManyCalls()), want);
    }

    /** 511 calls: one that clears the text, one for each of its characters, and the plays. */
    private static HiddenBids afterManyCalls() {
        HiddenBids x = new HiddenBids();
        Due.write(x, LONG_TEXT);
        for (int n = 0; n < TIMES; n++) x.play();
        return x;
    }

    private void divisions() {
        e.section("Terms");
        e.says("All numbers are whole numbers");
        e.row("what player 1 of 3 gets of a pot of #", pot -> shared(3, pot).playerOf(1, 5), 0, 0, 1, 1, 2, 2, 3);
        e.says("divisions are rounded down (all divided numbers are at least 0)");
        e.row("what player 1 of 4 gets of a pot of #", pot -> shared(4, pot).playerOf(1, 5), 0, 0, 0, 1, 1, 1, 2, 2, 2, 3);
    }

    /** Player 0 wins by a bid, all others bid 0; by 0 all tie. */
    private static HiddenBids shared(int players, int bid) {
        HiddenBids x = Due.game(players, 10, 1);
        x.bid(0, bid);
        for (int player = 1; player < players; player++) x.bid(player, 0);
        x.resolve();
        return x;
    }

    private void playersAndLots() {
        e.section("Players and lots");
        e.says("There are 2 to 4 players");
        e.row("begin(#, 1)", n -> new HiddenBids().begin(n, 1), Due.INVALID, Due.INVALID, 2, 3, 4, Due.INVALID, Due.INVALID);
        e.says("numbered from 0");
        for (int players = 2; players <= 4; players++) numbersOfPlayers(players);
        e.says("(2 at first)");
        e.row("coins of player # at first", n -> new HiddenBids().playerOf(n, 0), 20, 20, Due.INVALID, Due.INVALID);
        e.says("coins (20 at first)");
        HiddenBids x = Due.game(2, 20, 1);
        x.undo();
        x.undo();
        e.due("all coins at first", x.count(8), 40);
        x.lot(1);
        e.due("a bid of 20", x.bid(0, 20), 1);
        e.due("a bid of 21", x.bid(1, 21), Due.IMPOSSIBLE);
        e.says("points (0 at first)");
        e.row("points of player # at first", n -> new HiddenBids().playerOf(n, 1), 0, 0);
        e.says("Lots have values (-9 to 20)");
        e.each("lot(#)", value -> new HiddenBids().lot(value), 1, -9, -8, 0, 19, 20);
        e.each("lot(#)", value -> new HiddenBids().lot(value), Due.INVALID, Edges.MIN, -10, 21, Edges.MAX);
        placesOfLots();
        numberOfLots();
        e.says("There is a pot of coins (0 at first)");
        e.due("pot at first", new HiddenBids().count(4), 0);
        e.due("pot of a tie by 1", carried(2, 1, 1).count(4), 2);
    }

    private void numbersOfPlayers(int players) {
        HiddenBids x = Due.game(players, 5, 1);
        for (int n = 0; n < players; n++) e.due("bid of player " + n + " of " + players, x.bid(n, 1), n + 1);
        e.each("bid(#, 1) of " + players, n -> x.bid(n, 1), Due.INVALID, Edges.MIN, -1, players, Edges.MAX);
        for (int n = 0; n < players; n++) e.due("coins of player " + n + " of " + players, x.playerOf(n, 0), 5);
        e.each("playerOf(#, 0) of " + players, n -> x.playerOf(n, 0), Due.INVALID, Edges.MIN, -1, players, Edges.MAX);
    }

    private void placesOfLots() {
        e.says("they are in the row, the first one is next");
        HiddenBids x = Due.game(2, 9, 3, 4);
        e.row("lot # of the row", n -> x.lotOf(0, n), 3, 4, Due.NONE);
        Due.round(x, 1, 0);
        e.due("points by the first one", x.playerOf(0, 1), 3);
        Due.round(x, 1, 0);
        e.due("points by both", x.playerOf(0, 1), 7);
        e.says("or on the table: those that were carried (none at first)");
        HiddenBids y = Due.game(2, 9, 3, 4);
        e.row("lot # of the table at first", n -> y.lotOf(1, n), Due.NONE);
        Due.round(y, 2, 2);
        e.row("lot # of the table, one carried", n -> y.lotOf(1, n), 3, Due.NONE);
        e.row("lot # of the row, one carried", n -> y.lotOf(0, n), 4, Due.NONE);
    }

    private void numberOfLots() {
        e.says("there are at most 20 lots in the row and on the table together");
        for (int carried : new int[] {0, 1, 10, 19}) {
            HiddenBids x = carried(19, carried, 0);
            e.due("the 20th, with " + carried + " on the table", x.lot(1), 20 - carried);
            e.due("no 21st, with " + carried + " on the table", x.lot(1), Due.FULL);
            e.due("row, with " + carried + " on the table", x.count(1), 20 - carried);
        }
        HiddenBids all = carried(20, 20, 0);
        e.due("all 20 on the table", all.count(2), 20);
        e.due("no 21st, with all on the table", all.lot(1), Due.FULL);
        HiddenBids won = carried(20, 3, 0);
        Due.round(won, 1, 0);
        for (int n = 17; n <= 20; n++) e.due("room for 4 that were won", won.lot(1), n);
        e.due("but not for 5", won.lot(1), Due.FULL);
    }

    /** A game of two with this many lots of 1, the first ones of them carried. */
    private static HiddenBids carried(int lots, int rounds, int bid) {
        HiddenBids x = new HiddenBids();
        for (int n = 0; n < lots; n++) x.lot(1);
        for (int n = 0; n < rounds; n++) Due.round(x, bid, bid);
        return x;
    }

    private void endOfTheGame() {
        e.says("A game is over when the row is empty");
        HiddenBids x = new HiddenBids();
        e.due("bid without a lot", x.bid(0, 0), Due.IMPOSSIBLE);
        x.lot(4);
        e.due("bid for the only lot", x.bid(0, 0), 1);
        x.bid(1, 0);
        x.resolve();
        e.due("bid when the only lot is on the table", x.bid(0, 0), Due.IMPOSSIBLE);
        x.lot(5);
        e.due("bid for a new lot", x.bid(0, 1), 1);
        x.bid(1, 0);
        x.resolve();
        e.due("bid when all lots are gone", x.bid(0, 0), Due.IMPOSSIBLE);
        e.says("Then the winner is the player with the most points");
        HiddenBids points = Due.game(3, 10, 1);
        Due.round(points, 0, 0, 5);
        e.due("1 point rather than coins", points.winner(), 2);
        HiddenBids below = Due.game(2, 10, -1);
        Due.round(below, 1, 0);
        e.due("0 rather than -1", below.winner(), 1);
        e.says("of several the one with the most coins");
        HiddenBids coins = Due.game(3, 10, 0, 0);
        coins.set(2, 0);
        Due.round(coins, 1, 0, 0);
        Due.round(coins, 0, 1, 0);
        e.due("10 coins rather than 9 of those ahead", coins.winner(), 2);
        HiddenBids behind = Due.game(3, 10, 0, 0);
        behind.set(2, 0);
        Due.round(behind, 0, 1, 0);
        Due.round(behind, 0, 0, 1);
        e.due("10 coins rather than 9 of those behind", behind.winner(), 0);
        e.says("of several the lowest number");
        e.due("all equal", new HiddenBids().winner(), 0);
        HiddenBids two = Due.game(4, 10, 0);
        two.set(2, 0);
        Due.round(two, 1, 0, 0, 0);
        e.due("all but player 0 equal", two.winner(), 1);
    }

    private void bidsOfARound() {
        e.section("Rounds");
        e.says("In a round each player makes a bid, 0 to as many coins as the player has");
        HiddenBids x = Due.game(2, 7, 1, 1);
        e.each("bid(0, #) by 7 coins", coins -> x.bid(0, coins), 1, 0, 1, 6, 7);
        e.each("bid(0, #) by 7 coins", coins -> x.bid(0, coins), Due.INVALID, Edges.MIN, -1);
        e.each("bid(0, #) by 7 coins", coins -> x.bid(0, coins), Due.IMPOSSIBLE, 8, 9, 14, Edges.MAX);
        Due.round(x, 3, 0);
        e.each("bid(0, #) by 4 coins", coins -> x.bid(0, coins), Due.IMPOSSIBLE, 5);
        e.each("bid(0, #) by 4 coins", coins -> x.bid(0, coins), 1, 4);
        e.each("bid(1, #) by 10 coins", coins -> x.bid(1, coins), Due.IMPOSSIBLE, 11);
        e.each("bid(1, #) by 10 coins", coins -> x.bid(1, coins), 2, 10);
        e.says("it is hidden, and can be changed, until the round is resolved");
        hiddenBids();
        e.says("(Coins are taken when it is resolved.)");
        HiddenBids y = Due.game(2, 7, 1);
        y.bid(0, 7);
        y.bid(1, 6);
        e.due("coins before", y.playerOf(0, 0), 7);
        y.resolve();
        e.due("coins behind", y.playerOf(0, 0), 0);
        e.says("When all players have a bid, the round can be resolved");
        for (int players = 2; players <= 4; players++) missingBids(players);
        e.says("the next lot comes on the table");
        HiddenBids z = carried(2, 1, 0);
        e.due("lots on the table by one round", z.count(2), 1);
        e.due("lots in the row by one round", z.count(1), 1);
        Due.round(z, 0, 0);
        e.due("lots on the table by two rounds", z.count(2), 2);
        e.due("lots in the row by two rounds", z.count(1), 0);
    }

    private void hiddenBids() {
        HiddenBids low = Due.game(2, 7, 1, 1);
        HiddenBids high = Due.game(2, 7, 1, 1);
        low.bid(0, 0);
        high.bid(0, 7);
        for (int what = 0; what <= 5; what++) e.due("playerOf(0, " + what + ")", high.playerOf(0, what), low.playerOf(0, what));
        for (int what = 0; what <= 9; what++) e.due("count(" + what + ")", high.count(what), low.count(what));
        e.due("record(0, 1)", high.record(0, 1), Due.NONE);
        e.due("roundOf(0, 10)", high.roundOf(0, 10), Due.NONE);
        e.due("changed to 5", low.bid(0, 5), 1);
        low.bid(1, 4);
        e.due("the last one counts", low.resolve(), 0);
        e.due("it is told then", low.roundOf(0, 10), 5);
        e.due("a bid behind is one for the next round", low.bid(0, 0), 1);
        e.due("what was resolved stays", low.roundOf(0, 10), 5);
    }

    private void missingBids(int players) {
        for (int missing = 0; missing < players; missing++) {
            HiddenBids x = Due.game(players, 5, 1);
            for (int n = 0; n < players; n++) if (n != missing) x.bid(n, 0);
            e.due("resolve without the bid of " + missing + " of " + players, x.resolve(), Due.IMPOSSIBLE);
            x.bid(missing, 0);
            e.due("resolve with all bids of " + players, x.resolve(), -1);
        }
    }

    private void wonRounds() {
        e.says("If one player alone made the greatest bid, this player wins the round");
        for (int players = 2; players <= 4; players++) {
            for (int n = 0; n < players; n++) {
                int[] bids = new int[players];
                java.util.Arrays.fill(bids, 4);
                e.due("all of " + players + " bid 4", Due.round(Due.game(players, 9, 1), bids), -1);
                bids[n] = 5;
                e.due("player " + n + " of " + players + " bids 1 more", Due.round(Due.game(players, 9, 1), bids), n);
            }
        }
        e.says("the bid goes into the pot");
        e.row("pot by a bid of #", bid -> unshared(bid).count(4), 0, 1, 2);
        e.row("coins by a bid of #", bid -> unshared(bid).playerOf(0, 0), 9, 8, 7);
        e.says("all values on the table together are added to the player's points (a sum below 0 is taken off)");
        e.row("points by 3 and # - 4", n -> twoLots(3, n - 4).playerOf(0, 1), -1, 0, 1, 2);
        e.due("points by -9 and -9", twoLots(-9, -9).playerOf(0, 1), -18);
        e.due("points by 20 and 20", twoLots(20, 20).playerOf(0, 1), 40);
        e.due("points of the other one", twoLots(20, 20).playerOf(1, 1), 0);
        e.due("points by 20 lots of 20", all(20).playerOf(0, 1), 400);
        e.due("points by 20 lots of -9", all(-9).playerOf(0, 1), -180);
        e.says("and the table is empty then");
        e.due("lots on the table before", carried(2, 1, 0).count(2), 1);
        e.due("lots on the table", twoLots(3, 4).count(2), 0);
        e.due("their sum", twoLots(3, 4).count(3), 0);
        e.due("the first lot on the table", twoLots(3, 4).lotOf(1, 0), Due.NONE);
        e.says("Each other player pays a fee into the pot: setting 1, but at most the own bid");
        e.row("paid by a bid of # and a fee of 3", bid -> feeOfOthers(3, bid).playerOf(1, 4), 0, 1, 2, 3, 3, 3);
        e.row("pot by a bid of # and a fee of 3", bid -> feeOfOthers(3, bid).count(4), 9, 10, 11, 12, 12, 12);
        e.row("paid by a bid of # and a fee of 0", bid -> feeOfOthers(0, bid).playerOf(1, 4), 0, 0, 0);
        e.row("paid by a bid of 8 and a fee of #", fee -> feeOfOthers(fee, 8).playerOf(1, 4), 0, 1, 2, 3, 4, 5);
        e.due("the winner pays no fee", feeOfOthers(5, 8).playerOf(0, 4), 9);
    }

    /** Player 0 bids against 0, and the pot is not shared. */
    private static HiddenBids unshared(int bid) {
        HiddenBids x = Due.game(2, 9, 1);
        x.set(2, 0);
        Due.round(x, bid, 0);
        return x;
    }

    /** Player 0 wins 20 lots at once. */
    private static HiddenBids all(int value) {
        HiddenBids x = new HiddenBids();
        for (int n = 0; n < 20; n++) x.lot(value);
        for (int n = 0; n < 19; n++) Due.round(x, 0, 0);
        Due.round(x, 1, 0);
        return x;
    }

    private static HiddenBids twoLots(int carried, int next) {
        HiddenBids x = Due.game(2, 9, carried, next, 5);
        Due.round(x, 0, 0);
        Due.round(x, 1, 0);
        return x;
    }

    /** Player 0 wins by all of the 9 coins against a bid. */
    private static HiddenBids feeOfOthers(int fee, int bid) {
        HiddenBids x = Due.game(2, 9, 1);
        x.set(1, fee);
        x.set(2, 0);
        Due.round(x, 9, bid);
        return x;
    }

    private void sharedPot() {
        e.says("Then, if setting 2 is 1, the pot is shared");
        HiddenBids x = Due.game(2, 9, 1, 1);
        x.set(2, 0);
        Due.round(x, 2, 0);
        e.due("coins by setting 0", x.playerOf(1, 0), 9);
        e.due("pot by setting 0", x.count(4), 2);
        x.set(2, 1);
        Due.round(x, 1, 0);
        e.due("coins by setting 1", x.playerOf(1, 0), 12);
        e.due("pot by setting 1", x.count(4), 0);
        e.says("each player but the winner gets as many coins as the pot has, divided by the number of these players");
        e.row("coins of the other one of 2 by a pot of #", pot -> shared(2, pot).playerOf(1, 0), 10, 11, 12, 13);
        e.row("coins of another one of 3 by a pot of #", pot -> shared(3, pot).playerOf(2, 0), 10, 10, 11, 11, 12);
        e.row("coins of another one of 4 by a pot of #", pot -> shared(4, pot).playerOf(3, 0), 10, 10, 10, 11, 11, 11, 12);
        e.row("coins of the winner by a bid of #", pot -> shared(4, pot).playerOf(0, 0), 10, 9, 8, 7, 6, 5, 4);
        HiddenBids fees = Due.game(3, 9, 1);
        fees.set(1, 1);
        Due.round(fees, 4, 1, 0);
        e.due("the pot with the fees", fees.playerOf(2, 0), 11);
        e.says("what is left stays in the pot");
        e.row("left by 2 players of #", pot -> shared(2, pot).count(4), 0, 0, 0, 0);
        e.row("left by 3 players of #", pot -> shared(3, pot).count(4), 0, 1, 0, 1, 0);
        e.row("left by 4 players of #", pot -> shared(4, pot).count(4), 0, 1, 2, 0, 1, 2, 0);
        HiddenBids left = Due.game(4, 9, 1, 1);
        Due.round(left, 5, 0, 0, 0);
        Due.round(left, 1, 0, 0, 0);
        e.due("2 that were left and 1 are shared", left.playerOf(1, 0), 11);
        e.due("and nothing is left", left.count(4), 0);
    }

    private void tiedRounds() {
        e.says("If several made the greatest bid, nobody wins");
        e.due("two first ones of 4", Due.round(Due.game(4, 9, 1), 5, 5, 4, 0), -1);
        e.due("two last ones of 4", Due.round(Due.game(4, 9, 1), 4, 0, 5, 5), -1);
        e.due("three of 4", Due.round(Due.game(4, 9, 1), 5, 0, 5, 5), -1);
        e.due("all, by 0", Due.round(Due.game(4, 9, 1), 0, 0, 0, 0), -1);
        e.due("two, but by less than another one", Due.round(Due.game(4, 9, 1), 5, 6, 5, 5), 1);
        e.says("the lots stay on the table");
        HiddenBids x = Due.game(2, 9, 3, -4, 5);
        Due.round(x, 1, 1);
        Due.round(x, 1, 1);
        e.row("lot # of the table", n -> x.lotOf(1, n), 3, -4, Due.NONE);
        e.row("points of player #", n -> x.playerOf(n, 1), 0, 0);
        e.says("each of these pays setting 0, but at most the own bid, into the pot");
        e.row("paid by a bid of # and a fee of 3", bid -> tied(3, bid).playerOf(1, 4), 0, 1, 2, 3, 3, 3);
        e.row("coins by a bid of # and a fee of 3", bid -> tied(3, bid).playerOf(0, 0), 9, 8, 7, 6, 6, 6);
        e.row("pot by a bid of # and a fee of 3", bid -> tied(3, bid).count(4), 0, 2, 4, 6, 6, 6);
        e.row("paid by a bid of 8 and a fee of #", fee -> tied(fee, 8).playerOf(1, 4), 0, 1, 2, 3, 4, 5);
        e.says("the others pay nothing");
        HiddenBids y = Due.game(4, 9, 1);
        y.set(0, 5);
        y.set(1, 5);
        Due.round(y, 8, 7, 8, 0);
        e.row("paid by player #", n -> y.playerOf(n, 4), 5, 0, 5, 0);
        e.row("coins of player #", n -> y.playerOf(n, 0), 4, 9, 4, 9);
        e.says("nothing is shared");
        e.due("pot", y.count(4), 10);
        e.row("got by player #", n -> y.playerOf(n, 5), 0, 0, 0, 0);
        e.says("Behind this all bids are gone");
        e.due("bids behind a tie", y.count(7), 0);
        y.lot(1);
        e.due("bids before a round", bidsOf(y, 3, 2, 1, 0), 4);
        e.due("won", y.resolve(), 0);
        e.due("bids behind a round that is won", y.count(7), 0);
        y.lot(1);
        e.due("resolved without new bids", y.resolve(), Due.IMPOSSIBLE);
    }

    private static int bidsOf(HiddenBids x, int... bids) {
        for (int player = 0; player < bids.length; player++) x.bid(player, bids[player]);
        return x.count(7);
    }

    private static HiddenBids tied(int fee, int bid) {
        HiddenBids x = Due.game(2, 9, 1);
        x.set(0, fee);
        Due.round(x, bid, bid);
        return x;
    }

    private void lookingAhead() {
        e.section("Looking ahead");
        e.says("What a player holds against another one, in a game of two, by a depth");
        e.row("holds(0, 0) by # players", n -> Due.game(n, 5, 1).holds(0, 0), 0, 0, 0, Due.IMPOSSIBLE, Due.IMPOSSIBLE);
        e.says("0 rounds: the own points less those of the other one");
        HiddenBids ahead = Due.game(2, 9, 7, -2, 5);
        Due.round(ahead, 1, 0);
        Due.round(ahead, 0, 1);
        e.row("holds(#, 0) by 7 against -2", n -> ahead.holds(n, 0), 9, -9);
        e.says("By d rounds: the greatest number, over all own bids, of the least number, over all bids of the other one");
        e.due("5 against 5 coins", Due.game(2, 5, 4).holds(0, 1), 0);
        e.row("holds(#, 1) by 4 against 5 coins", n -> Due.poorer(5, 1, 4).holds(n, 1), -4, 4);
        e.row("holds(#, 1) by 0 against 1 coins", n -> Due.poorer(1, 1, 4).holds(n, 1), -4, 4);
        e.due("0 against 0 coins", Due.game(2, 0, 4).holds(0, 1), 0);
        for (int value = -2; value <= 0; value++) {
            e.due("0 coins, a lot of " + value, Due.poorer(1, 1, value).holds(0, 1), 0);
            e.due("1 coin, a lot of " + value, Due.poorer(1, 1, value).holds(1, 1), 0);
        }
        e.row("holds(#, 1) by a lot of 1", n -> Due.poorer(1, 1, 1).holds(n, 1), -1, 1);
        e.says("of what is held behind this round by d - 1 rounds");
        // A tie by 0 carries 5, and the 1 coin wins 8 then; by a bid of 1 it wins the 5 alone.
        e.row("holds(1, #) by 1 against 0 coins", depth -> Due.poorer(1, 1, 5, 3).holds(1, depth), 0, 5, 8);
        e.row("holds(0, #) by 0 against 1 coins", depth -> Due.poorer(1, 1, 5, 3).holds(0, depth), 0, -5, -8);
        e.row("holds(1, #), a third lot does not matter", depth -> Due.poorer(1, 1, 5, 3, 9).holds(1, depth), 0, 5, 8);
        e.says("(bids made now do not matter)");
        HiddenBids bid = Due.poorer(5, 1, 4, 4);
        bid.bid(0, 4);
        bid.bid(1, 0);
        e.row("holds(1, #) by bids of 4 and 0", depth -> bid.holds(1, depth), 0, 4, 0);
        e.says("If the row is empty it is as by 0 rounds");
        HiddenBids empty = Due.poorer(1, 1, 5);
        e.row("holds(1, #), one lot in the row", depth -> empty.holds(1, depth), 0, 5, 5);
        Due.round(empty, 0, 0);
        e.row("holds(1, #), the lot on the table", depth -> empty.holds(1, depth), 0, 0, 0);
        e.row("holds(0, #), no lot at all", depth -> new HiddenBids().holds(0, depth), 0, 0, 0);
    }

    private void settings() {
        e.section("Settings");
        e.says("The settings are (in parentheses: range; first value)");
        e.each("count(#)", what -> new HiddenBids().count(what), Due.INVALID, 19, 23);
        e.row("setting # at first", what -> new HiddenBids().count(20 + what), 1, 0, 1);
        e.says("0 the fee of ties (0 to 5; 1)");
        e.each("set(0, #)", value -> new HiddenBids().set(0, value), 1, 0, 1, 5);
        e.each("set(0, #)", value -> new HiddenBids().set(0, value), Due.INVALID, Edges.MIN, -1, 6, Edges.MAX);
        HiddenBids x = Due.game(2, 9, 1);
        Due.round(x, 8, 8);
        e.due("paid by a tie at first", x.playerOf(0, 4), 1);
        e.says("1 the fee of others (0 to 5; 0)");
        e.each("set(1, #)", value -> new HiddenBids().set(1, value), 0, 0, 1, 5);
        e.each("set(1, #)", value -> new HiddenBids().set(1, value), Due.INVALID, Edges.MIN, -1, 6, Edges.MAX);
        HiddenBids y = Due.game(2, 9, 1);
        Due.round(y, 9, 8);
        e.due("paid by another one at first", y.playerOf(1, 4), 0);
        e.says("2 whether the pot is shared (0 to 1; 1)");
        e.each("set(2, #)", value -> new HiddenBids().set(2, value), 1, 0, 1);
        e.each("set(2, #)", value -> new HiddenBids().set(2, value), Due.INVALID, Edges.MIN, -1, 2, Edges.MAX);
        e.due("got by another one at first", y.playerOf(1, 5), 9);
    }
}
