/** Promises 18 to 20: keep, restore, undo, and what is a change. */
public final class ChangeTest {
    private static final Due D = new Due("ChangeTest");

    public static void main(String[] args) {
        keepAndRestore();
        restoreIsAChange();
        keepReplaces();
        undo();
        atMostFourStates();
        undoRestoresEverything();
        onlyChangesAreRecorded();
        errorsChangeNothing();
        D.end();
    }

    private static void keepAndRestore() {
        HiddenBids x = Due.game(3, 10, 5, 6, 7, 8);
        D.due("19: none yet", x.restore(), Due.IMPOSSIBLE);
        D.due("18: rounds at first", x.keep(), 0);
        Due.round(x, 2, 2, 0);
        Due.round(x, 0, 3, 1);
        x.bid(2, 4);
        x.set(1, 4);
        D.due("18: rounds so far", x.keep(), 2);
        D.due("18: there is one", x.count(12), 1);
        int[] before = look(x, 3);
        Due.round(x, 1, 5, 1);
        x.set(1, 0);
        x.set(0, 0);
        x.begin(4, 2);
        Due.write(x, "r;");
        D.due("19: rounds then", x.restore(), 2);
        same("19: all is back", before, look(x, 3));
        D.due("19: but the text", x.count(11), 2);
        x.begin(2, 1);
        D.due("19: it stays", x.restore(), 2);
        same("19: once more", before, look(x, 3));
        D.due("19: the snapshot is not changed by what comes then", Due.round(x, 1, 5, 1), 1);
        x.restore();
        same("19: and once more", before, look(x, 3));
    }

    private static void restoreIsAChange() {
        HiddenBids x = new HiddenBids();
        x.lot(1);
        x.keep();
        x.lot(2);
        x.lot(3);
        x.restore();
        D.due("19: in the history", x.count(10), 4);
        D.due("20: undone", x.undo(), 3);
        D.due("20: three lots again", x.count(1), 3);
        D.due("20: the snapshot is no part of it", x.count(12), 1);
        x.undo();
        x.undo();
        x.undo();
        D.due("20: no lots", x.count(1), 0);
        D.due("19: restored from there", x.restore(), 0);
        D.due("19: one lot", x.count(1), 1);
    }

    private static void keepReplaces() {
        HiddenBids x = new HiddenBids();
        x.keep();
        x.lot(1);
        x.keep();
        x.lot(2);
        D.due("18: no change", x.count(10), 2);
        x.restore();
        D.due("18: in place of the one that was", x.count(1), 1);
    }

    private static void undo() {
        HiddenBids x = new HiddenBids();
        D.due("20: empty", x.undo(), Due.IMPOSSIBLE);
        x.lot(4);
        x.bid(0, 3);
        x.bid(0, 5);
        D.due("20: two left", x.undo(), 2);
        D.due("20: in the history", x.count(10), 2);
        x.bid(1, 4);
        D.due("20: the former bid", x.resolve(), 1);
        D.due("20: of 3", x.roundOf(0, 10), 3);
        D.due("20: unresolved", x.undo(), 3);
        D.due("20: no round", x.roundOf(0, 0), Due.NONE);
        D.due("20: the bids are back", x.count(7), 2);
        D.due("20: one more", x.undo(), 2);
        D.due("20: one more", x.undo(), 1);
        D.due("20: the last", x.undo(), 0);
        D.due("20: empty again", x.undo(), Due.IMPOSSIBLE);
        D.due("20: as new", x.count(1), 0);
    }

    private static void atMostFourStates() {
        HiddenBids x = new HiddenBids();
        for (int n = 1; n <= 7; n++) {
            x.lot(n);
            D.due("20: states", x.count(10), Math.min(n, 4));
        }
        for (int left = 3; left >= 0; left--) {
            D.due("20: left", x.undo(), left);
            D.due("20: lots", x.count(1), 3 + left);
        }
        D.due("20: the older ones are dropped", x.undo(), Due.IMPOSSIBLE);
        D.due("20: three lots stay", x.count(1), 3);
        for (int n = 1; n <= 3; n++) x.set(0, n);
        x.lot(9);
        D.due("20: goes on", x.count(10), 4);
        x.set(1, 2);
        x.set(1, 3);
        D.due("20: undone again", x.undo(), 3);
        D.due("20: setting", x.count(21), 2);
        D.due("20: lot", x.lotOf(0, 3), 9);
    }

    private static void undoRestoresEverything() {
        HiddenBids x = midGame();
        int[] before = look(x, 4);
        x.resolve();
        D.due("20: of resolve", x.undo(), 3);
        same("20: of resolve", before, look(x, 4));
        x.begin(2, 30);
        D.due("20: of begin", x.undo(), 3);
        same("20: of begin", before, look(x, 4));
        x = midGame();
        x.set(2, 0);
        x.undo();
        same("20: of set", before, look(x, 4));
        x.bid(0, 1);
        x.undo();
        same("20: of bid", before, look(x, 4));
        Due.write(x, "r;l3;");
        D.due("20: play", x.play(), 2);
        x.undo();
        same("20: of play", before, look(x, 4));
        D.due("20: the text is no part of it", x.count(11), 5);
    }

    private static HiddenBids midGame() {
        HiddenBids x = Due.game(4, 9, 5, -6, 7, 8);
        x.set(1, 1);
        Due.round(x, 2, 2, 0, 1);
        Due.round(x, 0, 3, 1, 4);
        for (int player = 0; player < 4; player++) x.bid(player, player);
        return x;
    }

    private static void onlyChangesAreRecorded() {
        HiddenBids x = Due.game(2, 9, 5);
        x.bid(0, 1);
        int[] before = look(x, 2);
        int states = x.count(10);
        x.keep();
        x.type('r');
        x.fault(0);
        x.clearText();
        x.sure(0);
        x.reply(1);
        x.holds(0, 2);
        x.holding(1, 2);
        x.chance(0);
        x.winner();
        D.due("20: no change", x.count(10), states);
        same("20: nothing else either", before, look(x, 2));
        x.undo();
        D.due("20: no keep by undo", x.count(12), 1);
        D.due("20: the bid is undone", x.count(7), 0);
    }

    private static void errorsChangeNothing() {
        HiddenBids x = Due.game(2, 9, 5);
        int[] before = look(x, 2);
        int states = x.count(10);
        x.begin(5, 1);
        x.begin(2, 31);
        x.lot(21);
        x.bid(0, 10);
        x.bid(2, 1);
        x.resolve();
        x.set(2, 2);
        x.restore();
        x.type(31);
        Due.write(x, "l4;b0,10;");
        x.play();
        x.fault(3);
        D.due("errors: history", x.count(10), states);
        same("errors: nothing changed", before, look(x, 2));
    }

    /** All that a state shows, but the history, the text and the snapshot. */
    private static int[] look(HiddenBids x, int players) {
        int[] seen = new int[150];
        int at = 0;
        for (int what = 0; what <= 9; what++) seen[at++] = x.count(what);
        for (int what = 20; what <= 22; what++) seen[at++] = x.count(what);
        for (int player = 0; player < players; player++) {
            for (int what = 0; what <= 5; what++) seen[at++] = x.playerOf(player, what);
        }
        for (int index = 0; index < 4; index++) {
            seen[at++] = x.lotOf(0, index);
            seen[at++] = x.lotOf(1, index);
        }
        for (int back = 0; back < 3; back++) {
            for (int what = 0; what <= 3; what++) seen[at++] = x.roundOf(back, what);
            seen[at++] = x.roundOf(back, 10);
        }
        for (int index = 0; index < 6; index++) {
            for (int what = 0; what <= 3; what++) seen[at++] = x.record(index, what);
        }
        seen[at++] = x.reply(1);
        return seen;
    }

    private static void same(String call, int[] before, int[] behind) {
        for (int i = 0; i < before.length; i++) D.due(call + ", look " + i, behind[i], before[i]);
    }
}
