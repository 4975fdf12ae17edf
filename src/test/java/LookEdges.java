/** The sentences of the promises 7 to 12: playerOf, lotOf, roundOf, record, count, winner. */
final class LookEdges {
    private final Edges e;

    private LookEdges(Edges e) {
        this.e = e;
    }

    static void test(Edges e) {
        LookEdges edges = new LookEdges(e);
        edges.playerOf();
        edges.playerOfRoundsAndCoins();
        edges.lotOf();
        edges.latestRounds();
        edges.roundOf();
        edges.roundOfArguments();
        edges.record();
        edges.recordArguments();
        edges.countOfTheGame();
        edges.countOfTheObject();
        edges.winner();
    }

    private void playerOf() {
        e.section("Promise 7: playerOf");
        e.says("Returns something of a player");
        e.due("coins", new HiddenBids().playerOf(1, 0), 20);
        e.says("`player`: number of the player");
        for (int players = 2; players <= 4; players++) {
            HiddenBids x = Due.game(players, 9);
            e.each("playerOf(#, 0) of " + players, n -> x.playerOf(n, 0), Due.INVALID, Edges.MIN, -1, players, Edges.MAX);
            e.each("playerOf(#, 0) of " + players, n -> x.playerOf(n, 0), 9, 0, players - 1);
        }
        e.says("`what`: 0: the coins");
        HiddenBids x = Due.game(2, 30, 20, -9, 5);
        e.row("coins of player # at first", n -> x.playerOf(n, 0), 30, 30, Due.INVALID);
        Due.round(x, 30, 0);
        e.row("coins of player # when all are paid", n -> x.playerOf(n, 0), 0, 60);
        e.says("1: the points");
        e.row("points of player # by 20", n -> x.playerOf(n, 1), 20, 0);
        Due.round(x, 0, 1);
        e.row("points of player # by -9", n -> x.playerOf(n, 1), 20, -9);
        e.says("2: 1 if there is a bid, otherwise 0");
        e.row("bid of player #", n -> x.playerOf(n, 2), 0, 0);
        x.bid(0, 0);
        e.row("bid of player #, one of 0", n -> x.playerOf(n, 2), 1, 0);
        x.bid(0, 1);
        e.row("bid of player #, changed to 1", n -> x.playerOf(n, 2), 1, 0);
        x.bid(1, 59);
        e.row("bid of player #, two", n -> x.playerOf(n, 2), 1, 1);
        x.resolve();
        e.row("bid of player #, resolved", n -> x.playerOf(n, 2), 0, 0);
        x.undo();
        e.row("bid of player #, undone", n -> x.playerOf(n, 2), 1, 1);
    }

    private void playerOfRoundsAndCoins() {
        HiddenBids x = Due.game(3, 9, 1, 1, 1);
        x.set(0, 2);
        x.set(1, 1);
        e.says("3: rounds won so far");
        e.row("rounds won by # at first", n -> x.playerOf(n, 3), 0, 0, 0);
        Due.round(x, 3, 3, 1);
        e.row("rounds won by # with a tie", n -> x.playerOf(n, 3), 0, 0, 0);
        e.row("paid by # with a tie and a fee of 2", n -> x.playerOf(n, 4), 2, 2, 0);
        Due.round(x, 0, 5, 4);
        e.row("rounds won by # with 5, 4 and 0", n -> x.playerOf(n, 3), 0, 1, 0);
        e.says("4: coins paid into the pot so far");
        e.row("paid by # with 5, a fee of 1 and none", n -> x.playerOf(n, 4), 2, 7, 1);
        e.says("5: coins got from it so far (3 to 5: in this game)");
        e.row("got by # of a pot of 10", n -> x.playerOf(n, 5), 5, 0, 5);
        Due.round(x, 1, 2, 0);
        e.row("rounds won by # with one more", n -> x.playerOf(n, 3), 0, 2, 0);
        e.row("paid by # with 2, a fee of 1 and none", n -> x.playerOf(n, 4), 3, 9, 1);
        e.row("got by # of a pot of 3", n -> x.playerOf(n, 5), 6, 0, 6);
        x.begin(3, 9);
        for (int n = 0; n < 3; n++) {
            int player = n;
            e.row("playerOf(" + n + ", #) of the next game", what -> x.playerOf(player, what), 9, 0, 0, 0, 0, 0);
        }
        x.undo();
        e.row("playerOf(1, #) of the game before", what -> x.playerOf(1, what), 0, 3, 0, 2, 9, 0);
        e.says("Returns the number");
        e.row("playerOf(0, #)", what -> x.playerOf(0, what), 12, 0, 0, 0, 3, 6);
        e.says("INVALID_ARGUMENT if an argument is out of range");
        e.each("playerOf(0, #)", what -> x.playerOf(0, what), Due.INVALID, Edges.MIN, -1, 6, 10, Edges.MAX);
        e.each("playerOf(#, 5)", n -> x.playerOf(n, 5), Due.INVALID, Edges.MIN, -1, 3, Edges.MAX);
        e.due("both", x.playerOf(3, 6), Due.INVALID);
        e.due("none", x.playerOf(2, 5), 6);
    }

    private void lotOf() {
        e.section("Promise 8: lotOf");
        e.says("Returns the value of a lot");
        e.due("the only one", Due.game(2, 9, 5).lotOf(0, 0), 5);
        e.says("`where`: 0: in the row, the next one first");
        HiddenBids x = Due.game(2, 9, -9, 20, 0, 7);
        e.row("lotOf(0, #)", n -> x.lotOf(0, n), -9, 20, 0, 7, Due.NONE);
        Due.round(x, 1, 1);
        e.row("lotOf(0, #), one carried", n -> x.lotOf(0, n), 20, 0, 7, Due.NONE);
        Due.round(x, 1, 1);
        e.row("lotOf(0, #), two carried", n -> x.lotOf(0, n), 0, 7, Due.NONE);
        e.says("1: on the table, in the order in which they came");
        e.row("lotOf(1, #), two carried", n -> x.lotOf(1, n), -9, 20, Due.NONE);
        Due.round(x, 1, 1);
        e.row("lotOf(1, #), three carried", n -> x.lotOf(1, n), -9, 20, 0, Due.NONE);
        Due.round(x, 1, 0);
        e.row("lotOf(1, #), all won", n -> x.lotOf(1, n), Due.NONE);
        e.row("lotOf(0, #), all won", n -> x.lotOf(0, n), Due.NONE);
        e.says("`index`: 0 or more");
        HiddenBids y = Due.game(2, 9, 5, 6);
        Due.round(y, 1, 1);
        for (int where = 0; where <= 1; where++) {
            int place = where;
            e.each("lotOf(" + where + ", #)", n -> y.lotOf(place, n), Due.INVALID, Edges.MIN, -2, -1);
            e.each("lotOf(" + where + ", #)", n -> y.lotOf(place, n), 6 - where, 0);
            e.each("lotOf(" + where + ", #)", n -> y.lotOf(place, n), Due.NONE, 1, 2, 19, 20, 21, Edges.MAX);
        }
        e.says("Returns the value");
        HiddenBids values = new HiddenBids();
        for (int value = -9; value <= 10; value++) values.lot(value);
        for (int n = 0; n < 20; n++) e.due("lotOf(0, " + n + ")", values.lotOf(0, n), n - 9);
        for (int n = 0; n < 20; n++) Due.round(values, 0, 0);
        for (int n = 0; n < 20; n++) e.due("lotOf(1, " + n + ")", values.lotOf(1, n), n - 9);
        e.says("INVALID_ARGUMENT if where is out of range or index is negative");
        e.each("lotOf(#, 0)", where -> y.lotOf(where, 0), Due.INVALID, Edges.MIN, -1, 2, Edges.MAX);
        e.each("lotOf(#, 9)", where -> y.lotOf(where, 9), Due.INVALID, -1, 2);
        e.each("lotOf(#, -1)", where -> y.lotOf(where, -1), Due.INVALID, -1, 0, 1, 2);
        e.row("lotOf(#, 0)", where -> y.lotOf(where, 0), 6, 5, Due.INVALID);
        e.says("NOT_FOUND if there are not so many");
        e.due("the last of 20 on the table", values.lotOf(1, 19), 10);
        e.due("behind 20 on the table", values.lotOf(1, 20), Due.NONE);
        e.due("none in the row", values.lotOf(0, 0), Due.NONE);
        e.due("lots of the row are not on the table", y.lotOf(1, 1), Due.NONE);
    }

    private void latestRounds() {
        e.section("Promise 9: roundOf");
        e.says("Returns something of a round of this game");
        HiddenBids x = Due.game(2, 9, 1);
        Due.round(x, 1, 0);
        e.due("a round of this game", x.roundOf(0, 0), 0);
        x.begin(2, 9);
        e.due("not of the one before", x.roundOf(0, 0), Due.NONE);
        x.lot(3);
        Due.round(x, 0, 1);
        e.due("the first one of this game", x.roundOf(0, 0), 1);
        e.due("and no other", x.roundOf(1, 0), Due.NONE);
        e.says("the latest 12 are kept");
        HiddenBids y = Due.game(2, 9);
        for (int rounds = 1; rounds <= 38; rounds++) {
            y.lot(rounds % 21);
            Due.round(y, rounds % 2, 1 - rounds % 2);
            int kept = Math.min(rounds, 12);
            e.due("the oldest one after " + rounds, y.roundOf(kept - 1, 2), (rounds - kept + 1) % 21);
            e.due("none ahead of it after " + rounds, y.roundOf(kept, 2), Due.NONE);
            if (rounds > 11 && rounds < 26) everyKeptRound(y, rounds);
        }
    }

    private void everyKeptRound(HiddenBids x, int rounds) {
        for (int back = 0; back < 12; back++) {
            int round = rounds - back;
            e.due("sum " + back + " back after " + rounds, x.roundOf(back, 2), round % 21);
        }
    }

    private void roundOf() {
        e.says("`back`: 0 for the latest one, and so on");
        HiddenBids x = Due.game(4, 9, 6, -7, 5, -9, 3);
        Due.round(x, 2, 3, 2, 0);
        Due.round(x, 1, 4, 4, 4);
        Due.round(x, 0, 0, 0, 5);
        Due.round(x, 0, 0, 0, 0);
        e.row("sum # back", back -> x.roundOf(back, 2), -9, -2, -7, 6, Due.NONE);
        e.says("`what`: 0: who won it, -1: nobody");
        e.row("winner # back", back -> x.roundOf(back, 0), -1, 3, -1, 1, Due.NONE);
        e.says("1: the greatest bid");
        e.row("greatest bid # back", back -> x.roundOf(back, 1), 0, 5, 4, 3, Due.NONE);
        e.says("2: the sum of the values that were on the table");
        e.due("one lot that is won", x.roundOf(3, 2), 6);
        e.due("one lot that is carried", x.roundOf(2, 2), -7);
        e.due("with the one that was carried", x.roundOf(1, 2), -2);
        e.due("not with one that was won", x.roundOf(0, 2), -9);
        e.says("3: how many made the greatest bid");
        e.row("how many # back", back -> x.roundOf(back, 3), 4, 1, 3, 1, Due.NONE);
        HiddenBids two = Due.game(4, 9, 6);
        Due.round(two, 7, 6, 7, 0);
        e.due("two of four", two.roundOf(0, 3), 2);
        e.says("10 plus a player: the bid of the player");
        e.row("bid of player # in the latest", n -> x.roundOf(0, 10 + n), 0, 0, 0, 0, Due.INVALID);
        e.row("bid of player # 1 back", n -> x.roundOf(1, 10 + n), 0, 0, 0, 5, Due.INVALID);
        e.row("bid of player # 2 back", n -> x.roundOf(2, 10 + n), 1, 4, 4, 4, Due.INVALID);
        e.row("bid of player # 3 back", n -> x.roundOf(3, 10 + n), 2, 3, 2, 0, Due.INVALID);
        x.bid(0, 1);
        e.due("not the one that is made now", x.roundOf(0, 10), 0);
        e.says("Returns the number");
        e.row("roundOf(2, #)", what -> x.roundOf(2, what), -1, 4, -7, 3, Due.INVALID);
    }

    private void roundOfArguments() {
        HiddenBids x = Due.game(3, 9, 6);
        Due.round(x, 1, 2, 0);
        e.says("INVALID_ARGUMENT if back is negative or what is none of these (10 plus a player that there is not, too)");
        e.each("roundOf(#, 0)", back -> x.roundOf(back, 0), Due.INVALID, Edges.MIN, -12, -1);
        e.each("roundOf(#, 0)", back -> x.roundOf(back, 0), 1, 0);
        e.each("roundOf(0, #)", what -> x.roundOf(0, what), Due.INVALID, Edges.MIN, -1, 4, 5, 9, 13, 14, 20, Edges.MAX);
        e.each("roundOf(0, #)", what -> x.roundOf(0, what), 1, 0, 3, 10);
        e.each("roundOf(0, #)", what -> x.roundOf(0, what), 0, 12);
        e.each("roundOf(0, #) of 2", what -> new HiddenBids().roundOf(0, what), Due.INVALID, -1, 4, 9, 12, 13);
        e.each("roundOf(0, #) of 2", what -> new HiddenBids().roundOf(0, what), Due.NONE, 0, 3, 10, 11);
        e.each("roundOf(0, #) of 4", what -> Due.game(4, 1).roundOf(0, what), Due.INVALID, -1, 4, 9, 14);
        e.each("roundOf(0, #) of 4", what -> Due.game(4, 1).roundOf(0, what), Due.NONE, 0, 3, 10, 13);
        e.says("NOT_FOUND if there are not so many rounds");
        e.each("roundOf(#, 0) after one", back -> x.roundOf(back, 0), Due.NONE, 1, 2, 11, 12, 13, Edges.MAX);
        e.each("roundOf(#, 12) after one", back -> x.roundOf(back, 12), Due.NONE, 1, 12, Edges.MAX);
        e.each("roundOf(#, 0) without rounds", back -> new HiddenBids().roundOf(back, 0), Due.NONE, 0, 1, Edges.MAX);
        x.undo();
        e.due("a round that is undone", x.roundOf(0, 0), Due.NONE);
    }

    private void record() {
        e.section("Promise 10: record");
        e.says("Returns something of the bids of this game, as resolved");
        HiddenBids x = Due.game(3, 9, 1, 1, 1, 1);
        x.bid(0, 1);
        e.due("a bid that is not resolved", x.record(0, 0), Due.NONE);
        x.bid(0, 2);
        x.bid(2, 2);
        x.bid(1, 2);
        x.resolve();
        e.row("bid of pair #", n -> x.record(n, 1), 2, 2, 2, Due.NONE);
        e.says("pairs of a player and a bid, in the order in which they were resolved for the first time (in a round by players)");
        e.row("player of pair #", n -> x.record(n, 0), 0, 1, 2, Due.NONE);
        Due.round(x, 0, 2, 1);
        e.row("player of pair #, of two rounds", n -> x.record(n, 0), 0, 1, 2, 0, 2, Due.NONE);
        e.row("bid of pair #, of two rounds", n -> x.record(n, 1), 2, 2, 2, 0, 1, Due.NONE);
        Due.round(x, 1, 0, 2);
        e.row("player of pair #, of three rounds", n -> x.record(n, 0), 0, 1, 2, 0, 2, 0, 1, Due.NONE);
        e.row("bid of pair #, of three rounds", n -> x.record(n, 1), 2, 2, 2, 0, 1, 1, 0, Due.NONE);
        e.says("there is no limit of them");
        for (int what = 0; what <= 3; what++) ManyPairs.compare(e, what);
        e.says("`index`: 0 for the first pair, and so on");
        e.row("record(#, 2)", n -> x.record(n, 2), 1, 2, 2, 1, 1, 1, 1, Due.NONE);
        e.says("`what`: 0: the player");
        e.due("the first one", x.record(0, 0), 0);
        e.due("the last one", x.record(4, 0), 2);
        e.says("1: the bid");
        e.due("of 2", x.record(2, 1), 2);
        e.due("of 0", x.record(3, 1), 0);
        e.says("2: how often");
        e.due("once", x.record(0, 2), 1);
        e.due("twice", x.record(1, 2), 2);
        e.says("3: how often the player won with it");
        e.row("record(#, 3)", n -> x.record(n, 3), 0, 1, 1, 0, 0, 0, 0, Due.NONE);
        Due.round(x, 1, 2, 0);
        e.row("record(#, 3), one more", n -> x.record(n, 3), 0, 2, 1, 0, 0, 0, 0, 0, Due.NONE);
        e.says("Returns the number");
        e.row("record(1, #)", what -> x.record(1, what), 1, 2, 3, 2, Due.INVALID);
    }

    private void recordArguments() {
        HiddenBids x = Due.game(2, 9, 1, 1);
        Due.round(x, 1, 0);
        e.says("INVALID_ARGUMENT if index is negative or what is out of range");
        e.each("record(#, 0)", n -> x.record(n, 0), Due.INVALID, Edges.MIN, -1);
        e.each("record(0, #)", what -> x.record(0, what), Due.INVALID, Edges.MIN, -1, 4, Edges.MAX);
        e.each("record(9, #)", what -> x.record(9, what), Due.INVALID, -1, 4);
        e.each("record(0, #)", what -> x.record(0, what), 1, 1, 2, 3);
        e.each("record(0, #)", what -> x.record(0, what), 0, 0);
        e.says("NOT_FOUND if there are not so many pairs");
        e.each("record(#, 0)", n -> x.record(n, 0), 1, 1);
        e.each("record(#, 0)", n -> x.record(n, 0), Due.NONE, 2, 3, Edges.MAX);
        e.each("record(#, 3)", n -> x.record(n, 3), Due.NONE, 2, 3, Edges.MAX);
        e.row("record(0, #) without a round", what -> new HiddenBids().record(0, what), Due.NONE, Due.NONE, Due.NONE,
            Due.NONE, Due.INVALID);
        x.undo();
        e.due("a round that is undone", x.record(0, 0), Due.NONE);
        x.resolve();
        x.begin(2, 9);
        e.due("a game that is over", x.record(0, 0), Due.NONE);
    }

    private void countOfTheGame() {
        e.section("Promise 11: count");
        e.says("Returns a number");
        e.due("all coins", new HiddenBids().count(8), 40);
        e.says("`what`: 0: players");
        for (int players = 2; players <= 4; players++) e.due("of " + players, Due.game(players, 0).count(0), players);
        HiddenBids x = Due.game(3, 9, 5, -7, 20, -9);
        e.says("1: lots in the row");
        e.due("at first", new HiddenBids().count(1), 0);
        e.due("four", x.count(1), 4);
        Due.round(x, 3, 3, 1);
        e.due("three", x.count(1), 3);
        e.says("2: lots on the table");
        e.due("at first", new HiddenBids().count(2), 0);
        e.due("one", x.count(2), 1);
        e.says("3: the sum of the values of these");
        e.due("at first", new HiddenBids().count(3), 0);
        e.due("of one", x.count(3), 5);
        Due.round(x, 0, 2, 2);
        e.due("of two", x.count(3), -2);
        for (int value : new int[] {-9, 20}) {
            HiddenBids all = new HiddenBids();
            for (int n = 0; n < 20; n++) all.lot(value);
            for (int n = 1; n <= 20; n++) {
                Due.round(all, 0, 0);
                e.due("of " + n + " lots of " + value, all.count(3), n * value);
                e.due("as the round tells", all.roundOf(0, 2), n * value);
            }
        }
        e.says("4: the pot");
        e.due("at first", new HiddenBids().count(4), 0);
        e.due("by two ties", x.count(4), 4);
        Due.round(x, 1, 0, 0);
        e.due("when 5 are shared by two", x.count(4), 1);
        e.due("lots on the table when they are won", x.count(2), 0);
        e.due("their sum then", x.count(3), 0);
        e.says("5: rounds so far");
        e.due("at first", new HiddenBids().count(5), 0);
        e.due("three", x.count(5), 3);
        e.says("6: rounds without a winner so far");
        e.due("at first", new HiddenBids().count(6), 0);
        e.due("two", x.count(6), 2);
        e.says("7: bids that are made now");
        e.due("none", x.count(7), 0);
        x.bid(2, 0);
        e.due("one, of 0", x.count(7), 1);
        x.bid(2, 1);
        e.due("one, changed", x.count(7), 1);
        x.bid(0, 1);
        x.bid(1, 1);
        e.due("all", x.count(7), 3);
        e.says("8: all coins, with the pot");
        e.due("with a pot of 1", x.count(8), 27);
        e.due("none", Due.game(4, 0).count(8), 0);
        e.due("the most", Due.game(4, 30).count(8), 120);
        e.says("9: pairs of a player and a bid");
        e.due("at first", new HiddenBids().count(9), 0);
        e.due("three rounds", x.count(9), 9);
        x.resolve();
        e.due("with (0, 1) and (2, 1) again and with (1, 1)", x.count(9), 10);
    }

    private void countOfTheObject() {
        HiddenBids x = new HiddenBids();
        e.says("10: states in the history");
        e.due("at first", x.count(10), 0);
        int[] states = {1, 2, 3, 4, 4};
        for (int n = 0; n < 5; n++) {
            x.lot(n);
            e.due("by " + (n + 1) + " changes", x.count(10), states[n]);
        }
        e.says("11: the length of the text");
        e.due("at first", x.count(11), 0);
        for (int length = 1; length <= 60; length++) {
            x.type(' ');
            e.due("one more", x.count(11), length);
        }
        x.type(' ');
        e.due("at most", x.count(11), 60);
        x.clearText();
        e.due("emptied", x.count(11), 0);
        e.says("12: 1 if there is a snapshot, otherwise 0");
        e.due("at first", x.count(12), 0);
        x.keep();
        e.due("by one", x.count(12), 1);
        x.keep();
        e.due("by two", x.count(12), 1);
        x.restore();
        x.begin(2, 2);
        x.undo();
        e.due("it stays", x.count(12), 1);
        e.says("20 to 22: the settings 0 to 2");
        x.set(0, 5);
        x.set(1, 4);
        x.set(2, 0);
        e.row("count(20 + #)", n -> x.count(20 + n), 5, 4, 0, Due.INVALID);
        e.due("count(19)", x.count(19), Due.INVALID);
        e.says("Returns the number");
        e.row("count(#)", x::count, 2, 5, 0, 0, 0, 0, 0, 0, 40, 0, 4, 0, 1, Due.INVALID);
        e.says("INVALID_ARGUMENT if what is out of range");
        e.each("count(#)", x::count, Due.INVALID, Edges.MIN, -2, -1, 13, 14, 18, 19, 23, 24, Edges.MAX);
        e.each("count(#)", x::count, 2, 0);
        e.each("count(#)", x::count, 1, 12);
        e.each("count(#)", x::count, 5, 20);
        e.each("count(#)", x::count, 0, 22);
    }

    private void winner() {
        e.section("Promise 12: winner");
        e.says("Returns the winner as things are");
        e.due("of a new game", new HiddenBids().winner(), 0);
        HiddenBids x = Due.game(4, 9, 1, 1, 2, 5);
        x.set(2, 0);
        Due.round(x, 0, 0, 0, 1);
        e.due("1 point", x.winner(), 3);
        Due.round(x, 0, 0, 2, 0);
        e.due("1 point and 8 coins rather than 7", x.winner(), 3);
        Due.round(x, 0, 9, 0, 0);
        e.due("2 points without coins", x.winner(), 1);
        e.says("who would be it if the game was over now");
        e.due("a lot is left", x.count(1), 1);
        x.bid(0, 9);
        e.due("a bid is no round", x.winner(), 1);
        Due.round(x, 9, 0, 0, 0);
        e.due("over", x.winner(), 0);
        e.says("Returns the player");
        HiddenBids y = Due.game(4, 9, 0, -1);
        y.set(2, 0);
        Due.round(y, 1, 0, 0, 0);
        e.due("the lowest of three with 9 coins", y.winner(), 1);
        Due.round(y, 0, 1, 0, 0);
        e.due("the lowest of two with 9 coins and no points", y.winner(), 2);
    }
}
