/** The sentences of the promises 1 to 6: a new object, begin, lot, bid, resolve, set. */
final class GameEdges {
    private final Edges e;

    private GameEdges(Edges e) {
        this.e = e;
    }

    static void test(Edges e) {
        GameEdges edges = new GameEdges(e);
        edges.newObject();
        edges.begin();
        edges.lot();
        edges.bid();
        edges.bidNotPossible();
        edges.resolve();
        edges.set();
    }

    private void newObject() {
        e.section("Promise 1: A new object");
        e.says("Creates a game of two players with 20 coins each, without lots");
        HiddenBids x = new HiddenBids();
        e.due("players", x.count(0), 2);
        e.row("coins of player #", n -> x.playerOf(n, 0), 20, 20, Due.INVALID);
        e.row("count(#)", x::count, 2, 0, 0, 0, 0, 0, 0, 0, 40, 0, 0, 0, 0, Due.INVALID);
        e.row("the first lot of place #", place -> x.lotOf(place, 0), Due.NONE, Due.NONE);
        e.due("the first round", x.roundOf(0, 0), Due.NONE);
        e.due("the first pair", x.record(0, 0), Due.NONE);
        e.due("undo", x.undo(), Due.IMPOSSIBLE);
        e.due("restore", x.restore(), Due.IMPOSSIBLE);
        e.due("the first lot", x.lot(1), 1);
        e.due("all coins of one", x.bid(0, 20), 1);
        e.due("more than all", x.bid(1, 21), Due.IMPOSSIBLE);
        HiddenBids y = new HiddenBids();
        e.due("another object is another game", y.count(1), 0);
    }

    private void begin() {
        e.section("Promise 2: begin");
        e.says("Begins a game: no points, no lots, an empty pot, no rounds");
        HiddenBids x = playedGame();
        e.row("count(#) before", x::count, 3, 2, 1, 2, 4, 3, 1, 1, 27, 8, 4);
        e.due("begin(3, 9)", x.begin(3, 9), 27);
        e.row("count(#)", x::count, 3, 0, 0, 0, 0, 0, 0, 0, 27, 0, 4);
        for (int player = 0; player < 3; player++) {
            int number = player;
            e.row("playerOf(" + player + ", #)", what -> x.playerOf(number, what), 9, 0, 0, 0, 0, 0);
        }
        e.row("the first lot of place #", place -> x.lotOf(place, 0), Due.NONE, Due.NONE);
        e.due("the latest round", x.roundOf(0, 0), Due.NONE);
        e.due("the first pair", x.record(0, 0), Due.NONE);
        nothingComesBack();
        e.says("`players`: 2 to 4");
        e.each("begin(#, 5)", n -> new HiddenBids().begin(n, 5), Due.INVALID, Edges.MIN, -2, -1, 0, 1, 5, 6, Edges.MAX);
        for (int n = 2; n <= 4; n++) {
            HiddenBids y = new HiddenBids();
            e.due("begin(" + n + ", 5)", y.begin(n, 5), 5 * n);
            e.due("players", y.count(0), n);
            e.due("the last one", y.playerOf(n - 1, 0), 5);
            e.due("no other one", y.playerOf(n, 0), Due.INVALID);
        }
        e.says("`coins`: 0 to 30: coins of each player");
        e.each("begin(2, #)", coins -> new HiddenBids().begin(2, coins), Due.INVALID, Edges.MIN, -1, 31, Edges.MAX);
        for (int coins : new int[] {0, 1, 29, 30}) {
            HiddenBids y = new HiddenBids();
            e.due("begin(4, " + coins + ")", y.begin(4, coins), 4 * coins);
            e.row("coins of player #", n -> y.playerOf(n, 0), coins, coins, coins, coins);
        }
        e.says("Returns all coins");
        e.row("begin(2, #)", coins -> new HiddenBids().begin(2, coins), 0, 2, 4);
        e.due("begin(4, 30)", new HiddenBids().begin(4, 30), 120);
        e.says("INVALID_ARGUMENT if an argument is out of range");
        e.due("only players", new HiddenBids().begin(1, 0), Due.INVALID);
        e.due("only coins", new HiddenBids().begin(2, -1), Due.INVALID);
        e.due("both", new HiddenBids().begin(5, 31), Due.INVALID);
        e.due("none", new HiddenBids().begin(4, 0), 0);
        e.due("players and coins are not taken for one another", new HiddenBids().begin(30, 4), Due.INVALID);
    }

    private void nothingComesBack() {
        HiddenBids x = playedGame();
        x.begin(3, 9);
        for (int lot = 6; lot <= 8; lot++) x.lot(lot);
        e.due("a round like the first one", Due.round(x, 1, 0, 0), 0);
        e.due("a tie like the former one", Due.round(x, 2, 2, 0), -1);
        e.row("count(#) by new rounds", x::count, 3, 1, 1, 7, 5, 2, 1, 0, 27, 5, 4);
        e.row("points of player #", n -> x.playerOf(n, 1), 6, 0, 0);
        e.row("paid by player #", n -> x.playerOf(n, 4), 3, 2, 0);
        e.row("rounds won by player #", n -> x.playerOf(n, 3), 1, 0, 0);
        e.row("player of pair #", n -> x.record(n, 0), 0, 1, 2, 0, 1, Due.NONE);
        e.row("how often, of pair #", n -> x.record(n, 2), 1, 1, 2, 1, 1, Due.NONE);
        e.row("how often won, of pair #", n -> x.record(n, 3), 1, 0, 0, 0, 0, Due.NONE);
        e.row("sum # back", back -> x.roundOf(back, 2), 7, 6, Due.NONE);
    }

    /** One lot won, one by player 2, one carried, two in the row; a bid is made. */
    private static HiddenBids playedGame() {
        HiddenBids x = Due.game(3, 9, 4, 3, 2, 1, 5);
        x.set(0, 2);
        Due.round(x, 1, 0, 0);
        Due.round(x, 0, 1, 3);
        Due.round(x, 2, 2, 0);
        x.bid(1, 1);
        return x;
    }

    private void lot() {
        e.section("Promise 3: lot");
        e.says("Puts a lot behind the row");
        HiddenBids x = Due.game(2, 9, 3, 4);
        Due.round(x, 0, 0);
        x.lot(5);
        e.row("lot # of the row", n -> x.lotOf(0, n), 4, 5, Due.NONE);
        e.row("lot # of the table", n -> x.lotOf(1, n), 3, Due.NONE);
        Due.round(x, 1, 0);
        x.lot(6);
        e.row("lot # of the row behind a round that is won", n -> x.lotOf(0, n), 5, 6, Due.NONE);
        e.says("`value`: -9 to 20");
        HiddenBids y = new HiddenBids();
        int[] values = {-9, -8, -1, 0, 1, 19, 20};
        for (int value : values) y.lot(value);
        e.row("lot # of the row", n -> y.lotOf(0, n), values);
        e.each("lot(#)", y::lot, Due.INVALID, Edges.MIN, -11, -10, 21, 22, Edges.MAX);
        e.says("Returns how many lots are in the row then");
        HiddenBids z = new HiddenBids();
        e.row("lot(#)", z::lot, 1, 2, 3);
        Due.round(z, 0, 0);
        e.due("one is on the table", z.lot(1), 3);
        Due.round(z, 0, 1);
        e.due("one is won", z.lot(1), 3);
        e.says("INVALID_ARGUMENT if value is out of range");
        e.each("lot(#)", value -> new HiddenBids().lot(value), Due.INVALID, -10, 21);
        e.each("lot(#)", value -> new HiddenBids().lot(value), 1, -9, 20);
        e.says("LIMIT_REACHED if there are 20 in the row and on the table together");
        HiddenBids full = new HiddenBids();
        for (int n = 1; n <= 20; n++) e.due("lot " + n, full.lot(n), n);
        e.each("lot(#), the 21st", full::lot, Due.FULL, -9, 0, 20);
        Due.round(full, 1, 1);
        e.due("19 in the row, 1 on the table", full.lot(0), Due.FULL);
        Due.round(full, 1, 0);
        e.due("18 in the row, none on the table", full.lot(-9), 19);
        e.due("19 in the row, none on the table", full.lot(-9), 20);
        e.due("20 in the row again", full.lot(-9), Due.FULL);
        e.row("lot # of the row then", n -> full.lotOf(0, n), 3, 4, 5, 6, 7, 8, 9, 10, 11, 12, 13, 14, 15, 16, 17, 18, 19, 20,
            -9, -9, Due.NONE);
    }

    private void bid() {
        e.section("Promise 4: bid");
        e.says("Makes, or changes, a bid");
        HiddenBids x = Due.game(2, 9, 1);
        e.due("no bid", x.playerOf(0, 2), 0);
        x.bid(0, 9);
        e.due("a bid", x.playerOf(0, 2), 1);
        x.bid(0, 2);
        x.bid(1, 0);
        x.resolve();
        e.due("changed from 9 to 2", x.roundOf(0, 10), 2);
        e.due("and not the other one's", x.roundOf(0, 11), 0);
        e.says("`player`: number of the player");
        for (int players = 2; players <= 4; players++) {
            HiddenBids y = Due.game(players, 9, 1);
            e.each("bid(#, 0) of " + players, n -> y.bid(n, 0), Due.INVALID, Edges.MIN, -1, players, Edges.MAX);
            e.due("bid of the first of " + players, y.bid(0, 0), 1);
            e.due("bid of the last of " + players, y.bid(players - 1, 0), 2);
        }
        e.says("`coins`: 0 or more");
        e.each("bid(0, #)", coins -> Due.game(2, 9, 1).bid(0, coins), Due.INVALID, Edges.MIN, -2, -1);
        e.each("bid(0, #)", coins -> Due.game(2, 9, 1).bid(0, coins), 1, 0, 1);
        e.says("Returns how many players have a bid then");
        HiddenBids four = Due.game(4, 9, 1);
        int[] order = {2, 2, 0, 3, 0, 1, 1};
        e.row("bid of index # in 2, 2, 0, 3, 0, 1, 1", n -> four.bid(order[n], n), 1, 1, 2, 3, 3, 4, 4);
        e.says("INVALID_ARGUMENT if coins is negative");
        e.each("bid(0, #)", coins -> Due.game(2, 0, 1).bid(0, coins), Due.INVALID, Edges.MIN, -1);
        e.due("bid(0, 0)", Due.game(2, 0, 1).bid(0, 0), 1);
    }

    private void bidNotPossible() {
        e.says("NOT_POSSIBLE if the game is over");
        HiddenBids x = Due.game(2, 9);
        e.row("bid(#, 0) without lots", n -> x.bid(n, 0), Due.IMPOSSIBLE, Due.IMPOSSIBLE, Due.INVALID);
        x.lot(0);
        e.row("bid(#, 0) with a lot", n -> x.bid(n, 0), 1, 2, Due.INVALID);
        x.resolve();
        e.row("bid(#, 0) with a lot on the table", n -> x.bid(n, 0), Due.IMPOSSIBLE, Due.IMPOSSIBLE);
        e.says("or the player has not so many coins");
        HiddenBids y = Due.game(3, 9, 0, 0);
        Due.round(y, 9, 1, 0);
        int[] coins = {0, 13, 13};
        for (int n = 0; n < 3; n++) {
            int player = n;
            e.each("bid(" + n + ", #) by " + coins[n], bid -> y.bid(player, bid), Due.IMPOSSIBLE, coins[n] + 1, 27, 30, Edges.MAX);
            e.due("bid of all coins, " + coins[n], y.bid(n, coins[n]), n + 1);
        }
        HiddenBids rich = Due.game(4, 30, 0, 0, 0, 0);
        rich.set(1, 5);
        Due.round(rich, 30, 0, 0, 0);
        Due.round(rich, 0, 40, 0, 0);
        Due.round(rich, 0, 0, 53, 0);
        e.due("coins of one who has 71", rich.playerOf(3, 0), 71);
        e.due("a bid of 71", rich.bid(3, 71), 1);
        e.due("a bid of 72", rich.bid(3, 72), Due.IMPOSSIBLE);
    }

    private void resolve() {
        e.section("Promise 5: resolve");
        e.says("Resolves the round");
        HiddenBids x = Due.game(2, 9, 4, 5);
        x.bid(0, 3);
        x.bid(1, 2);
        e.due("rounds before", x.count(5), 0);
        e.due("resolve", x.resolve(), 0);
        e.row("count(#)", x::count, 2, 1, 0, 0, 0, 1, 0, 0, 18, 2);
        e.row("playerOf(0, #)", what -> x.playerOf(0, what), 6, 4, 0, 1, 3, 0);
        e.row("playerOf(1, #)", what -> x.playerOf(1, what), 12, 0, 0, 0, 0, 3);
        e.says("Returns the player who wins it, -1: nobody");
        e.due("the first of 4", Due.round(Due.game(4, 9, 1), 1, 0, 0, 0), 0);
        e.due("the last of 4", Due.round(Due.game(4, 9, 1), 7, 8, 0, 9), 3);
        e.due("nobody, by all coins", Due.round(Due.game(4, 9, 1), 9, 9, 9, 9), -1);
        e.due("nobody, by nothing", Due.round(Due.game(2, 0, 1), 0, 0), -1);
        e.says("NOT_POSSIBLE if the game is over");
        HiddenBids over = Due.game(2, 9);
        e.due("without lots", over.resolve(), Due.IMPOSSIBLE);
        over.lot(1);
        e.due("with a lot", Due.round(over, 0, 0), -1);
        e.due("behind the last lot", over.resolve(), Due.IMPOSSIBLE);
        e.says("or a player has no bid");
        HiddenBids y = Due.game(4, 9, 1);
        for (int n = 3; n >= 0; n--) {
            e.due("without the bid of " + n, y.resolve(), Due.IMPOSSIBLE);
            y.bid(n, 0);
        }
        e.due("with all bids, of 0", y.resolve(), -1);
    }

    private void set() {
        e.section("Promise 6: set");
        e.says("Sets a setting");
        HiddenBids x = new HiddenBids();
        x.set(0, 4);
        e.row("setting # then", what -> x.count(20 + what), 4, 0, 1);
        x.set(1, 5);
        e.row("setting # then", what -> x.count(20 + what), 4, 5, 1);
        x.set(2, 0);
        e.row("setting # then", what -> x.count(20 + what), 4, 5, 0);
        e.says("`what`: 0 to 2");
        e.each("set(#, 0)", what -> new HiddenBids().set(what, 0), Due.INVALID, Edges.MIN, -1, 3, 20, Edges.MAX);
        e.row("set(#, 0)", what -> new HiddenBids().set(what, 0), 1, 0, 1);
        e.says("`value`: a value in its range");
        e.row("set(0, #)", value -> new HiddenBids().set(0, value), 1, 1, 1, 1, 1, 1, Due.INVALID);
        e.row("set(1, #)", value -> new HiddenBids().set(1, value), 0, 0, 0, 0, 0, 0, Due.INVALID);
        e.row("set(2, #)", value -> new HiddenBids().set(2, value), 1, 1, Due.INVALID, Due.INVALID);
        e.row("set(#, -1)", what -> new HiddenBids().set(what, -1), Due.INVALID, Due.INVALID, Due.INVALID);
        e.says("Returns what it was");
        HiddenBids y = new HiddenBids();
        int[] values = {5, 5, 0, 0, 3};
        e.row("set(0, ..), time #", n -> y.set(0, values[n]), 1, 5, 5, 0, 0);
        e.row("set(1, ..), time #", n -> y.set(1, values[n]), 0, 5, 5, 0, 0);
        int[] shared = {1, 0, 0, 1};
        e.row("set(2, ..), time #", n -> y.set(2, shared[n]), 1, 1, 0, 0);
        e.says("INVALID_ARGUMENT if an argument is out of range");
        e.due("only what", y.set(3, 1), Due.INVALID);
        e.due("only value", y.set(2, 2), Due.INVALID);
        e.due("both", y.set(-1, -1), Due.INVALID);
        e.row("setting # is as it was", what -> y.count(20 + what), 3, 3, 1);
    }
}
