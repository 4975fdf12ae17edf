/** The sentences of the promises 13 to 17: sure, reply, holds, holding, chance. */
final class AdviceEdges {
    private final Edges e;

    private AdviceEdges(Edges e) {
        this.e = e;
    }

    static void test(Edges e) {
        AdviceEdges edges = new AdviceEdges(e);
        edges.sure();
        edges.sureNot();
        edges.reply();
        edges.replyNotPossible();
        edges.holds();
        edges.holdsLargeGames();
        edges.holding();
        edges.holdingNotPossible();
        edges.chance();
    }

    private void sure() {
        e.section("Promise 13: sure");
        e.says("Returns the least bid by which a player wins the round for sure, whatever others bid");
        e.row("sure(1) by 9 against 9 - # coins", paid -> Due.poorer(9, paid, 1).sure(1), Due.NONE, 9, 8, 7, 6, 5, 4, 3, 2, 1);
        e.row("sure(0) by 9 - # against 9 coins", paid -> Due.poorer(9, paid, 1).sure(0), Due.NONE, Due.NONE, Due.NONE);
        e.due("for a lot that costs points", Due.poorer(9, 2, -9).sure(1), 8);
        HiddenBids x = Due.game(4, 9, 0, 0, 0, 1);
        x.set(2, 0);
        Due.round(x, 5, 0, 0, 0);
        Due.round(x, 0, 0, 1, 0);
        Due.round(x, 0, 3, 0, 0);
        e.row("sure(#) by 4, 6, 8 and 9 coins", x::sure, Due.NONE, Due.NONE, Due.NONE, 9);
        e.says("(also if they have made bids: they can change them)");
        HiddenBids y = Due.poorer(9, 2, 1);
        y.bid(0, 0);
        e.due("against a bid of 0 by 7 coins", y.sure(1), 8);
        y.bid(0, 7);
        y.bid(1, 1);
        e.due("with an own bid", y.sure(1), 8);
        e.due("against a bid of 1 by 9 coins", y.sure(0), Due.NONE);
        e.due("no bid is changed", y.resolve(), 0);
    }

    private void sureNot() {
        e.says("`player`: number of the player");
        for (int players = 2; players <= 4; players++) {
            HiddenBids x = Due.game(players, 9, 1);
            e.each("sure(#) of " + players, x::sure, Due.INVALID, Edges.MIN, -1, players, Edges.MAX);
            e.each("sure(#) of " + players, x::sure, Due.NONE, 0, players - 1);
        }
        e.says("Returns the bid");
        e.due("all coins", Due.poorer(1, 1, 1).sure(1), 1);
        e.says("INVALID_ARGUMENT");
        e.row("sure(#) when the game is over", n -> new HiddenBids().sure(n), Due.IMPOSSIBLE, Due.IMPOSSIBLE, Due.INVALID);
        e.says("NOT_POSSIBLE if the game is over");
        HiddenBids over = Due.poorer(9, 4);
        e.row("sure(#) without a lot", over::sure, Due.IMPOSSIBLE, Due.IMPOSSIBLE);
        over.lot(0);
        e.row("sure(#) with a lot", over::sure, Due.NONE, 6);
        Due.round(over, 0, 0);
        e.row("sure(#) with a lot on the table", over::sure, Due.IMPOSSIBLE, Due.IMPOSSIBLE);
        e.says("NOT_FOUND if there is none");
        e.row("sure(#) by 9 against 9 coins", n -> Due.game(2, 9, 1).sure(n), Due.NONE, Due.NONE);
        e.row("sure(#) by 0 against 0 coins", n -> Due.game(2, 0, 1).sure(n), Due.NONE, Due.NONE);
        e.row("sure(#) by 0 against 1 coins", n -> Due.poorer(1, 1, 1).sure(n), Due.NONE, 1);
        e.row("sure(#) by 8 against 9 coins", n -> Due.poorer(9, 1, 1).sure(n), Due.NONE, 9);
    }

    private void reply() {
        e.section("Promise 14: reply");
        e.says("Returns the best reply of a player to the bids that all others have made");
        e.row("reply(1) by 9 coins to a bid of #", bid -> replyTo(1, bid), 1, 2, 3, 4, 5, 6, 7, 8, 9, 0);
        HiddenBids x = Due.game(4, 9, 1);
        for (int n = 0; n < 4; n++) x.bid(n, 2 * n);
        e.row("reply(#) to bids of 0, 2, 4 and 6", x::reply, 7, 7, 7, 5);
        x.bid(3, 9);
        e.row("reply(#) to bids of 0, 2, 4 and 9", x::reply, 0, 0, 0, 5);
        e.due("no bid is changed", x.resolve(), 3);
        e.row("bid of player #", n -> x.roundOf(0, 10 + n), 0, 2, 4, 9);
        e.says("by which the points of the player behind the round are the most");
        e.row("reply to 3 for a lot of # - 2", n -> replyTo(n - 2, 3), 0, 0, 0, 4, 4);
        e.due("for a lot of -9", replyTo(-9, 0), 0);
        e.due("for a lot of 20", replyTo(20, 0), 1);
        for (int next = -5; next <= -2; next++) {
            HiddenBids two = Due.game(2, 9, 3, next);
            Due.round(two, 0, 0);
            two.bid(0, 4);
            e.due("for 3 and " + next, two.reply(1), next > -3 ? 5 : 0);
        }
        HiddenBids poor = Due.poorer(9, 1, 1);
        poor.bid(1, 7);
        e.due("8 coins to a bid of 7", poor.reply(0), 8);
        poor.bid(1, 8);
        e.due("8 coins to a bid of 8", poor.reply(0), 0);
        poor.bid(1, 9);
        e.due("8 coins to a bid of 9", poor.reply(0), 0);
        e.says("of several the coins, of several the least one");
        HiddenBids tie = Due.game(3, 9, 0, 0);
        tie.set(0, 5);
        tie.set(1, 5);
        tie.bid(0, 4);
        tie.bid(1, 4);
        e.due("to a tie of others by 4, for nothing", tie.reply(2), 0);
        tie.bid(1, 0);
        e.due("to a bid of 4, for nothing", tie.reply(2), 0);
        tie.bid(0, 0);
        e.due("to bids of 0, for nothing", tie.reply(2), 0);
        HiddenBids back = Due.game(2, 9, -1, -1);
        back.set(1, 5);
        back.bid(0, 9);
        e.due("the own fee comes back: all equal", back.reply(1), 0);
        back.set(2, 0);
        e.due("the own fee does not come back", back.reply(1), 0);
        HiddenBids win = Due.game(2, 9, 1, 1);
        win.set(2, 0);
        win.bid(0, 4);
        e.due("won by fewer coins", win.reply(1), 5);
    }

    /** The best reply of player 1, who has 9 coins, to a bid for a lot. */
    private static int replyTo(int lot, int bid) {
        HiddenBids x = Due.game(2, 9, lot);
        x.bid(0, bid);
        return x.reply(1);
    }

    private void replyNotPossible() {
        e.says("`player`: number of the player");
        for (int players = 2; players <= 4; players++) {
            HiddenBids x = Due.game(players, 9, 1);
            for (int n = 0; n < players; n++) x.bid(n, 1);
            e.each("reply(#) of " + players, x::reply, Due.INVALID, Edges.MIN, -1, players, Edges.MAX);
            e.each("reply(#) of " + players, x::reply, 2, 0, players - 1);
        }
        e.says("Returns the bid");
        e.due("all coins", replyTo(1, 8), 9);
        HiddenBids none = Due.game(2, 0, 1);
        none.bid(1, 0);
        e.due("without coins", none.reply(0), 0);
        e.says("INVALID_ARGUMENT");
        e.row("reply(#) when the game is over", n -> new HiddenBids().reply(n), Due.IMPOSSIBLE, Due.IMPOSSIBLE, Due.INVALID);
        e.says("NOT_POSSIBLE if the game is over");
        HiddenBids over = Due.game(2, 9);
        e.row("reply(#) without a lot", over::reply, Due.IMPOSSIBLE, Due.IMPOSSIBLE);
        over.lot(1);
        over.bid(0, 0);
        over.bid(1, 0);
        e.row("reply(#) with a lot", over::reply, 1, 1);
        over.resolve();
        e.row("reply(#) with a lot on the table", over::reply, Due.IMPOSSIBLE, Due.IMPOSSIBLE);
        e.says("or one of the others has no bid");
        for (int missing = 0; missing < 4; missing++) {
            HiddenBids x = Due.game(4, 9, 1);
            for (int n = 0; n < 4; n++) if (n != missing) x.bid(n, 3);
            for (int n = 0; n < 4; n++) {
                e.due("reply(" + n + ") without the bid of " + missing, x.reply(n), n == missing ? 4 : Due.IMPOSSIBLE);
            }
        }
    }

    private void holds() {
        e.section("Promise 15: holds");
        e.says("Returns what a player holds against the other one");
        e.row("holds(#, 1) by 9 against 9 coins", n -> Due.game(2, 9, 7).holds(n, 1), 0, 0);
        e.row("holds(#, 1) by 8 against 9 coins", n -> Due.poorer(9, 1, 7).holds(n, 1), -7, 7);
        e.row("holds(#, 2) by 0 against 1 coins", n -> Due.poorer(1, 1, 5, 3).holds(n, 2), -8, 8);
        e.says("`player`: number of the player");
        HiddenBids x = Due.poorer(9, 1, 7);
        e.each("holds(#, 0)", n -> x.holds(n, 0), Due.INVALID, Edges.MIN, -1, 2, 3, Edges.MAX);
        e.each("holds(#, 2)", n -> x.holds(n, 2), Due.INVALID, Edges.MIN, -1, 2, 3, Edges.MAX);
        e.row("holds(#, 2)", n -> x.holds(n, 2), -7, 7, Due.INVALID);
        e.says("`depth`: 0 to 2");
        e.each("holds(0, #)", depth -> x.holds(0, depth), Due.INVALID, Edges.MIN, -2, -1, 3, 4, Edges.MAX);
        e.row("holds(0, #)", depth -> x.holds(0, depth), 0, -7, -7, Due.INVALID);
        e.row("holds(1, #) by lots of 5 and 3", depth -> Due.poorer(1, 1, 5, 3).holds(1, depth), 0, 5, 8, Due.INVALID);
        e.says("Returns the number");
        HiddenBids behind = Due.game(2, 9, 20, 7);
        behind.set(2, 0);
        Due.round(behind, 1, 0);
        e.row("holds(0, #) by 20 points, 8 against 9 coins", depth -> behind.holds(0, depth), 20, 13, 13);
        e.row("holds(1, #) by 0 points, 9 against 8 coins", depth -> behind.holds(1, depth), -20, -13, -13);
        e.says("INVALID_ARGUMENT if an argument is out of range");
        e.due("both", x.holds(2, 3), Due.INVALID);
        e.each("holds(#, 1) of 3", n -> Due.game(3, 9, 1).holds(n, 1), Due.INVALID, -1, 3);
        e.each("holds(0, #) of 3", depth -> Due.game(3, 9, 1).holds(0, depth), Due.INVALID, -1, 3);
        e.says("NOT_POSSIBLE if there are more than two players");
        for (int players = 3; players <= 4; players++) {
            HiddenBids more = Due.game(players, 9, 1);
            e.row("holds(0, #) of " + players, depth -> more.holds(0, depth), Due.IMPOSSIBLE, Due.IMPOSSIBLE, Due.IMPOSSIBLE);
            e.due("holds of the last of " + players, more.holds(players - 1, 1), Due.IMPOSSIBLE);
            more.begin(2, 9);
            e.row("holds(0, #) of 2", depth -> more.holds(0, depth), 0, 0, 0);
        }
    }

    /** Two rounds ahead by many coins, against all bids tried one by one. */
    private void holdsLargeGames() {
        e.says("Returns what a player holds against the other one");
        int[][] lots = {{5, 8}, {-3, 9}, {20, -9}, {4, 4}};
        for (int[] two : lots) {
            for (int bid = 0; bid <= 12; bid += 4) {
                Model model = new Model();
                HiddenBids x = new HiddenBids();
                model.begin(2, 12);
                x.begin(2, 12);
                for (int lot : new int[] {3, two[0], two[1], 9}) {
                    model.lot(lot);
                    x.lot(lot);
                }
                model.bid(0, bid);
                model.bid(1, 0);
                model.resolve();
                Due.round(x, bid, 0);
                for (int player = 0; player < 2; player++) {
                    String told = player + " by lots of " + two[0] + " and " + two[1] + ", after " + bid;
                    e.due("holds of " + told, x.holds(player, 2), model.holds(player, 2));
                    e.due("holding of " + told, x.holding(player, 2), model.holding(player, 2));
                }
            }
        }
        HiddenBids most = Due.game(2, 30, 0, 5, 8);
        Due.round(most, 30, 0);
        e.row("holds(#, 1) by 0 against 60 coins", n -> most.holds(n, 1), -5, 5);
        e.row("holding(#, 1) by 0 against 60 coins", n -> most.holding(n, 1), 0, 1);
    }

    private void holding() {
        e.section("Promise 16: holding");
        e.says("Returns the own bid by which a player holds that");
        e.row("holding(#, 1) by 9 against 9 coins", n -> Due.game(2, 9, 7).holding(n, 1), 9, 9);
        e.row("holding(1, 1) by 9 against 9 - # coins", paid -> Due.poorer(9, paid, 7).holding(1, 1), 9, 9, 8, 7, 6, 5, 4, 3, 2, 1);
        e.row("holding(1, #) by lots of 5 and 3", depth -> Due.poorer(1, 1, 5, 3).holding(1, depth), Due.INVALID, 1, 0,
            Due.INVALID);
        e.says("(the least one of several)");
        e.row("holding(0, 1) by 9 - # against 9 coins", paid -> Due.poorer(9, paid, 7).holding(0, 1), 9, 0, 0, 0);
        e.row("holding(1, 1) for a lot of # - 2", n -> Due.poorer(9, 3, n - 2).holding(1, 1), 0, 0, 0, 7, 7);
        e.row("holding(0, 1) for a lot of # - 2", n -> Due.poorer(9, 3, n - 2).holding(0, 1), 0, 0, 0, 0, 0);
        e.due("without coins", Due.game(2, 0, 7).holding(0, 1), 0);
        e.says("`player`: number of the player");
        HiddenBids x = Due.poorer(9, 1, 7);
        e.each("holding(#, 1)", n -> x.holding(n, 1), Due.INVALID, Edges.MIN, -1, 2, 3, Edges.MAX);
        e.each("holding(#, 2)", n -> x.holding(n, 2), Due.INVALID, Edges.MIN, -1, 2, 3, Edges.MAX);
        e.row("holding(#, 2)", n -> x.holding(n, 2), 0, 9, Due.INVALID);
        e.says("`depth`: 1 or 2");
        e.each("holding(1, #)", depth -> x.holding(1, depth), Due.INVALID, Edges.MIN, -1, 0, 3, Edges.MAX);
        e.each("holding(1, #)", depth -> x.holding(1, depth), 9, 1, 2);
        e.says("Returns the bid");
        e.due("of all coins", x.holding(1, 1), 9);
    }

    private void holdingNotPossible() {
        e.says("INVALID_ARGUMENT if an argument is out of range");
        HiddenBids over = Due.game(2, 9);
        e.each("holding(#, 1) when the game is over", n -> over.holding(n, 1), Due.INVALID, -1, 2);
        e.each("holding(0, #) when the game is over", depth -> over.holding(0, depth), Due.INVALID, -1, 0, 3);
        e.each("holding(0, #) of 3", depth -> Due.game(3, 9, 1).holding(0, depth), Due.INVALID, 0, 3);
        e.each("holding(#, 1) of 3", n -> Due.game(3, 9, 1).holding(n, 1), Due.INVALID, -1, 3);
        e.says("NOT_POSSIBLE if there are more than two players");
        e.each("holding(0, 1) of #", n -> Due.game(n, 9, 1).holding(0, 1), Due.IMPOSSIBLE, 3, 4);
        e.each("holding(1, 2) of #", n -> Due.game(n, 9, 1).holding(1, 2), Due.IMPOSSIBLE, 3, 4);
        e.each("holding(1, 2) of #", n -> Due.game(n, 9, 1).holding(1, 2), 9, 2);
        e.says("or the game is over");
        e.each("holding(0, #) without a lot", depth -> over.holding(0, depth), Due.IMPOSSIBLE, 1, 2);
        over.lot(1);
        e.each("holding(0, #) with a lot", depth -> over.holding(0, depth), 9, 1, 2);
        Due.round(over, 0, 0);
        e.each("holding(0, #) with a lot on the table", depth -> over.holding(0, depth), Due.IMPOSSIBLE, 1, 2);
    }

    private void chance() {
        e.section("Promise 17: chance");
        e.says("Tells whether a player could have more points than all others");
        e.row("chance(1) by 0 against 5 points and a lot of # + 4", n -> behind(n + 4).chance(1), 0, 0, 1);
        e.row("chance(0) by 5 against 0 points and a lot of # + 4", n -> behind(n + 4).chance(0), 1, 1, 1);
        HiddenBids x = Due.game(3, 9, 5, 2, 4);
        Due.round(x, 1, 0, 0);
        Due.round(x, 0, 1, 0);
        e.row("chance(#) by 5, 2 and 0 points and 4", x::chance, 1, 1, 0);
        x.lot(2);
        e.row("chance(#) by 5, 2 and 0 points and 6", x::chance, 1, 1, 1);
        e.says("if the player got all lots above 0 of the row and the table");
        e.row("chance(0) by a lot of # - 1", n -> Due.game(2, 9, n - 1).chance(0), 0, 0, 1);
        e.due("6 and -9 against 5", behind(6, -9).chance(1), 1);
        e.due("3 and 2 against 5", behind(3, 2).chance(1), 0);
        e.due("3 and 3 against 5", behind(3, 3).chance(1), 1);
        HiddenBids table = behind(3, 3);
        Due.round(table, 0, 0);
        e.due("3 on the table and 3 in the row", table.chance(1), 1);
        Due.round(table, 0, 0);
        e.due("both on the table", table.chance(1), 1);
        HiddenBids cheap = behind(6, -2);
        Due.round(cheap, 0, 0);
        Due.round(cheap, 0, 0);
        e.due("6 and -2, both on the table", cheap.chance(1), 1);
        e.says("and nobody another one");
        e.due("a lot of -9 takes nothing off the other one's 5", behind(5, -9).chance(1), 0);
        e.due("nor off the own points", behind(-9).chance(0), 1);
        e.says("`player`: number of the player");
        for (int players = 2; players <= 4; players++) {
            HiddenBids y = Due.game(players, 9, 1);
            e.each("chance(#) of " + players, y::chance, Due.INVALID, Edges.MIN, -1, players, Edges.MAX);
            e.each("chance(#) of " + players, y::chance, 1, 0, players - 1);
        }
        e.says("Returns 1 or 0");
        e.row("chance(#) without lots and points", n -> new HiddenBids().chance(n), 0, 0, Due.INVALID);
        HiddenBids over = behind(-5);
        Due.round(over, 1, 0);
        e.row("chance(#) by 0 and 0 points when the game is over", over::chance, 0, 0);
        HiddenBids ahead = behind(-4);
        Due.round(ahead, 1, 0);
        e.row("chance(#) by 1 and 0 points when the game is over", ahead::chance, 1, 0);
        e.says("INVALID_ARGUMENT");
        e.each("chance(#) when the game is over", n -> new HiddenBids().chance(n), Due.INVALID, -1, 2, 3);
        e.each("chance(#) when the game is over", n -> new HiddenBids().chance(n), 0, 0, 1);
    }

    /** Player 0 has 5 points, player 1 has none, and there are lots. */
    private static HiddenBids behind(int... lots) {
        HiddenBids x = Due.game(2, 9, 5);
        for (int lot : lots) x.lot(lot);
        Due.round(x, 1, 0);
        return x;
    }
}
