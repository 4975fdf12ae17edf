/** Promises 1 to 6: a new object, begin, lot, bid, resolve, set. */
public final class GameTest {
    private static final Due D = new Due("GameTest");

    public static void main(String[] args) {
        newObject();
        begin();
        beginKeepsWhatIsNotOfTheGame();
        lot();
        bid();
        resolveWon();
        resolveTied();
        resolveWithFeesOfOthers();
        resolveShares();
        resolveRefused();
        set();
        D.end();
    }

    private static void newObject() {
        HiddenBids x = new HiddenBids();
        D.due("1: players", x.count(0), 2);
        for (int what = 1; what <= 7; what++) D.due("1: count " + what, x.count(what), 0);
        D.due("1: all coins", x.count(8), 40);
        for (int what = 9; what <= 12; what++) D.due("1: count " + what, x.count(what), 0);
        for (int player = 0; player < 2; player++) {
            D.due("1: coins", x.playerOf(player, 0), 20);
            for (int what = 1; what <= 5; what++) D.due("1: playerOf " + what, x.playerOf(player, what), 0);
        }
        D.due("1: no third player", x.playerOf(2, 0), Due.INVALID);
        D.due("1: tie fee", x.count(20), 1);
        D.due("1: others' fee", x.count(21), 0);
        D.due("1: shared", x.count(22), 1);
    }

    private static void begin() {
        HiddenBids x = new HiddenBids();
        D.due("2: most", x.begin(4, 30), 120);
        D.due("2: fewest", x.begin(2, 0), 0);
        D.due("2: one player", x.begin(1, 10), Due.INVALID);
        D.due("2: five players", x.begin(5, 10), Due.INVALID);
        D.due("2: coins -1", x.begin(2, -1), Due.INVALID);
        D.due("2: coins 31", x.begin(2, 31), Due.INVALID);
        D.due("2: extreme", x.begin(Integer.MIN_VALUE, Integer.MAX_VALUE), Due.INVALID);
        D.due("2: only what succeeded counts", x.count(10), 2);
        D.due("2: three", x.begin(3, 7), 21);
        D.due("2: players", x.count(0), 3);
        D.due("2: coins of the last", x.playerOf(2, 0), 7);
    }

    private static void beginKeepsWhatIsNotOfTheGame() {
        HiddenBids x = Due.game(2, 10, 5, 6, 7);
        x.set(1, 3);
        x.keep();
        Due.write(x, "r;");
        Due.round(x, 5, 2);
        Due.round(x, 4, 4);
        x.bid(1, 1);
        D.due("2: something was in the pot", x.count(4), 2);
        D.due("2: something was on the table", x.count(3), 6);
        D.due("2: again", x.begin(2, 9), 18);
        for (int what = 1; what <= 7; what++) D.due("2: count " + what + " is gone", x.count(what), 0);
        D.due("2: all coins", x.count(8), 18);
        D.due("2: pairs are gone", x.count(9), 0);
        D.due("2: rounds are gone", x.roundOf(0, 0), Due.NONE);
        for (int what = 1; what <= 5; what++) {
            D.due("2: playerOf " + what + " is gone", x.playerOf(0, what), 0);
            D.due("2: playerOf " + what + " of the other one", x.playerOf(1, what), 0);
        }
        D.due("2: the setting stays", x.count(21), 3);
        D.due("2: the text stays", x.count(11), 2);
        D.due("2: the snapshot stays", x.count(12), 1);
    }

    private static void lot() {
        HiddenBids x = new HiddenBids();
        D.due("3: least", x.lot(-9), 1);
        D.due("3: greatest", x.lot(20), 2);
        D.due("3: too little", x.lot(-10), Due.INVALID);
        D.due("3: too much", x.lot(21), Due.INVALID);
        D.due("3: row", x.count(1), 2);
        Due.round(x, 1, 1);
        D.due("3: counts the row alone", x.lot(3), 2);
        for (int size = 3; size <= 19; size++) D.due("3: filling", x.lot(0), size);
        D.due("3: full with the table", x.lot(0), Due.FULL);
        D.due("3: an invalid one is invalid first", x.lot(21), Due.INVALID);
        Due.round(x, 2, 1);
        D.due("3: room again", x.lot(4), 19);
        D.due("3: behind the row", x.lotOf(0, 18), 4);
        HiddenBids y = new HiddenBids();
        for (int size = 1; size <= 20; size++) D.due("3: 20 in the row", y.lot(1), size);
        D.due("3: no 21st", y.lot(1), Due.FULL);
    }

    private static void bid() {
        HiddenBids x = new HiddenBids();
        D.due("4: the game is over", x.bid(0, 1), Due.IMPOSSIBLE);
        D.due("4: no such player first", x.bid(2, 1), Due.INVALID);
        D.due("4: negative first", x.bid(0, -1), Due.INVALID);
        x.lot(5);
        D.due("4: one", x.bid(1, 20), 1);
        D.due("4: changed", x.bid(1, 0), 1);
        D.due("4: too many coins", x.bid(0, 21), Due.IMPOSSIBLE);
        D.due("4: far too many coins", x.bid(0, Integer.MAX_VALUE), Due.IMPOSSIBLE);
        D.due("4: player -1", x.bid(-1, 0), Due.INVALID);
        D.due("4: two", x.bid(0, 20), 2);
        D.due("4: coins are not taken yet", x.playerOf(0, 0), 20);
        D.due("4: nothing is paid yet", x.playerOf(0, 4), 0);
        D.due("4: a change each", x.count(10), 4);
    }

    private static void resolveWon() {
        HiddenBids x = Due.game(2, 20, 5, -3, 8);
        D.due("5: won", Due.round(x, 3, 7), 1);
        D.due("5: winner's points", x.playerOf(1, 1), 5);
        D.due("5: loser's points", x.playerOf(0, 1), 0);
        D.due("5: winner pays", x.playerOf(1, 0), 13);
        D.due("5: loser gets the pot", x.playerOf(0, 0), 27);
        D.due("5: the pot is empty", x.count(4), 0);
        D.due("5: bids are gone", x.count(7), 0);
        D.due("5: the table is empty", x.count(2), 0);
        D.due("5: the row is shorter", x.count(1), 2);
        D.due("5: the second", Due.round(x, 1, 0), 0);
        D.due("5: a sum below 0 is taken off", x.playerOf(0, 1), -3);
    }

    private static void resolveTied() {
        HiddenBids x = Due.game(3, 10, 5, -3, 8, 2);
        x.set(0, 3);
        D.due("5: tied", Due.round(x, 4, 4, 1), -1);
        D.due("5: a tied one pays the fee", x.playerOf(0, 0), 7);
        D.due("5: the other one pays nothing", x.playerOf(2, 0), 10);
        D.due("5: nothing is shared", x.count(4), 6);
        D.due("5: the lot is carried", x.count(2), 1);
        D.due("5: tied again", Due.round(x, 2, 2, 2), -1);
        D.due("5: at most the own bid", x.playerOf(0, 0), 5);
        D.due("5: the pot grows", x.count(4), 12);
        D.due("5: two are carried", x.count(2), 2);
        D.due("5: won", Due.round(x, 0, 0, 1), 2);
        D.due("5: all values together", x.playerOf(2, 1), 10);
        D.due("5: the whole pot is shared", x.playerOf(0, 0), 11);
        D.due("5: one is left", x.count(4), 1);
        D.due("5: the table is empty", x.count(2), 0);
        D.due("5: the row goes on", x.lotOf(0, 0), 2);
        HiddenBids y = Due.game(2, 10, 5);
        y.set(0, 0);
        D.due("5: by 0 both", Due.round(y, 0, 0), -1);
        D.due("5: nothing is paid", y.count(4), 0);
        D.due("5: over with a lot on the table", y.resolve(), Due.IMPOSSIBLE);
        D.due("5: which brings nothing", y.playerOf(0, 1), 0);
    }

    private static void resolveWithFeesOfOthers() {
        HiddenBids x = Due.game(4, 10, 5, 5);
        x.set(1, 2);
        x.set(2, 0);
        D.due("5: won", Due.round(x, 1, 9, 6, 0), 1);
        D.due("5: at most the own bid", x.playerOf(0, 0), 9);
        D.due("5: the winner pays the bid alone", x.playerOf(1, 0), 1);
        D.due("5: the fee", x.playerOf(2, 0), 8);
        D.due("5: nothing of nothing", x.playerOf(3, 0), 10);
        D.due("5: all of it in the pot", x.count(4), 12);
        D.due("5: a tie takes no fee of others", Due.round(x, 3, 0, 3, 1), -1);
        D.due("5: so the other one keeps all", x.playerOf(3, 0), 10);
        D.due("5: the tied pay 1", x.playerOf(2, 0), 7);
    }

    private static void resolveShares() {
        HiddenBids x = Due.game(4, 10, 5, 5, 5);
        x.set(1, 1);
        D.due("5: won", Due.round(x, 5, 4, 0, 4), 0);
        D.due("5: 7 for three", x.playerOf(2, 0), 12);
        D.due("5: less the fee", x.playerOf(1, 0), 11);
        D.due("5: the winner gets nothing", x.playerOf(0, 0), 5);
        D.due("5: what is left stays", x.count(4), 1);
        x.set(2, 0);
        Due.round(x, 2, 0, 0, 0);
        D.due("5: not shared", x.count(4), 3);
        x.set(2, 1);
        Due.round(x, 0, 3, 0, 0);
        D.due("5: shared later", x.playerOf(0, 0), 5);
        D.due("5: all of it", x.count(4), 0);
    }

    private static void resolveRefused() {
        HiddenBids x = Due.game(3, 10);
        D.due("5: no lot", x.resolve(), Due.IMPOSSIBLE);
        x.lot(1);
        D.due("5: no bid", x.resolve(), Due.IMPOSSIBLE);
        x.bid(0, 1);
        x.bid(2, 1);
        D.due("5: one bid is missing", x.resolve(), Due.IMPOSSIBLE);
        D.due("5: nothing changed", x.count(7), 2);
        D.due("5: nor the history", x.count(10), 4);
        x.bid(1, 2);
        D.due("5: all bids", x.resolve(), 1);
        D.due("5: over", x.resolve(), Due.IMPOSSIBLE);
        x.lot(3);
        D.due("5: a new lot needs new bids", x.resolve(), Due.IMPOSSIBLE);
        D.due("5: and it goes on", x.bid(1, 3), 1);
    }

    private static void set() {
        HiddenBids x = new HiddenBids();
        D.due("6: tie fee", x.set(0, 5), 1);
        D.due("6: what it was", x.set(0, 0), 5);
        D.due("6: others' fee", x.set(1, 5), 0);
        D.due("6: shared", x.set(2, 0), 1);
        D.due("6: shared again", x.set(2, 1), 0);
        D.due("6: the same is a change too", x.count(10), 4);
        D.due("6: what -1", x.set(-1, 0), Due.INVALID);
        D.due("6: what 3", x.set(3, 0), Due.INVALID);
        D.due("6: fee 6", x.set(0, 6), Due.INVALID);
        D.due("6: fee 6 of others", x.set(1, 6), Due.INVALID);
        D.due("6: shared 2", x.set(2, 2), Due.INVALID);
        D.due("6: -1", x.set(1, -1), Due.INVALID);
        D.due("6: extreme", x.set(Integer.MAX_VALUE, Integer.MIN_VALUE), Due.INVALID);
        D.due("6: setting 0", x.count(20), 0);
        D.due("6: setting 1", x.count(21), 5);
        D.due("6: setting 2", x.count(22), 1);
    }
}
