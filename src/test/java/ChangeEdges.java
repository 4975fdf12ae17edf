import java.util.function.Function;
import java.util.function.Supplier;
import java.util.function.ToIntFunction;

/** The sentences of "Changes and errors" and of the promises 18 to 20: keep, restore, undo. */
final class ChangeEdges {
    private record Call(String name, ToIntFunction<HiddenBids> answer) {
    }

    private static final Call[] CHANGES = {
        new Call("begin(4, 3)", x -> x.begin(4, 3)),
        new Call("lot(7)", x -> x.lot(7)),
        new Call("bid(1, 2)", x -> x.bid(1, 2)),
        new Call("bid(0, 1), the same again", x -> x.bid(0, 1)),
        new Call("set(0, 5)", x -> x.set(0, 5)),
        new Call("set(1, 1), the same again", x -> x.set(1, 1)),
        new Call("restore()", x -> x.restore()),
        new Call("play()", x -> x.play()),
    };

    private static final Call[] NO_CHANGES = {
        new Call("playerOf(0, 0)", x -> x.playerOf(0, 0)),
        new Call("lotOf(0, 0)", x -> x.lotOf(0, 0)),
        new Call("roundOf(0, 0)", x -> x.roundOf(0, 0)),
        new Call("record(0, 1)", x -> x.record(0, 1)),
        new Call("count(5)", x -> x.count(5)),
        new Call("winner()", x -> x.winner()),
        new Call("sure(0)", x -> x.sure(0)),
        new Call("reply(1)", x -> x.reply(1)),
        new Call("holds(0, 2)", x -> x.holds(0, 2)),
        new Call("holding(0, 2)", x -> x.holding(0, 2)),
        new Call("chance(0)", x -> x.chance(0)),
        new Call("fault(0)", x -> x.fault(0)),
    };
    private static final int[] ANSWERS = {11, 6, -1, 3, 3, 1, 6, 2, 6, 5, 1, Due.NONE};

    private final Edges e;

    private ChangeEdges(Edges e) {
        this.e = e;
    }

    static void test(Edges e) {
        ChangeEdges edges = new ChangeEdges(e);
        edges.changes();
        edges.historyOfFour();
        edges.whatIsRecorded();
        edges.constants();
        edges.keep();
        edges.restore();
        edges.restoredState();
        edges.undo();
    }

    /** 11 against 5 coins, 2 in the pot, a lot on the table, two in the row, a bid, a snapshot ahead of it, and a text. */
    static HiddenBids midGame() {
        HiddenBids x = Due.game(2, 9, 4, -3, 2, 6, 1);
        x.set(1, 1);
        Due.round(x, 3, 3);
        x.keep();
        Due.round(x, 1, 2);
        Due.round(x, 1, 1);
        Due.write(x, "l5;b1,0;");
        x.bid(0, 1);
        return x;
    }

    private void same(String call, int[] got, int[] want) {
        e.due(call + ", how much is seen", got.length, want.length);
        for (int i = 0; i < Math.min(got.length, want.length); i++) e.due(call + ", look " + i, got[i], want[i]);
    }

    private void changes() {
        e.section("Changes and errors");
        e.says("The changes are the calls of begin, lot, bid, resolve, set, restore and play that return no error");
        e.due("a new object is no change", new HiddenBids().count(10), 0);
        for (Call call : CHANGES) {
            HiddenBids x = midGame();
            for (int n = 0; n < 4; n++) x.undo();
            e.due("history ahead of " + call.name, x.count(10), 0);
            x.lot(1);
            e.due(call.name + " is no error", call.answer.applyAsInt(x) < 0 ? 0 : 1, 1);
            e.due(call.name + " is a change", x.count(10), 2);
        }
        HiddenBids resolved = Due.game(2, 9);
        Due.write(resolved, "l5;b1,0;b0,0;");
        resolved.play();
        e.due("ahead of resolve", resolved.count(10), 2);
        e.due("a tie", resolved.resolve(), -1);
        e.due("resolve is a change, by a tie too", resolved.count(10), 3);
        for (int n = 0; n < NO_CHANGES.length; n++) {
            for (Function<HiddenBids, int[]> look : Looks.ALL) {
                HiddenBids x = midGame();
                e.due(NO_CHANGES[n].name + " is no error", NO_CHANGES[n].answer.applyAsInt(x), ANSWERS[n]);
                same(NO_CHANGES[n].name + " is no change", look.apply(x), look.apply(midGame()));
            }
        }
        HiddenBids text = new HiddenBids();
        text.type('x');
        text.clearText();
        text.keep();
        e.due("type, clearText and keep are none", text.count(10), 0);
        HiddenBids refused = new HiddenBids();
        refused.begin(1, 1);
        refused.lot(21);
        refused.bid(0, 0);
        refused.resolve();
        refused.set(0, 6);
        refused.restore();
        refused.type('x');
        refused.play();
        e.due("errors are none", refused.count(10), 0);
    }

    private void historyOfFour() {
        e.says("A history of at most 4 states is kept");
        for (int changes = 0; changes <= 9; changes++) {
            HiddenBids x = withLots(changes);
            int kept = Math.min(changes, 4);
            e.due("states by " + changes + " changes", x.count(10), kept);
            for (int left = kept - 1; left >= 0; left--) e.due("left of " + changes + " changes", x.undo(), left);
            e.due("no more of " + changes + " changes", x.undo(), Due.IMPOSSIBLE);
        }
        e.says("and if there are 5 states then, the oldest one is dropped");
        for (int changes = 0; changes <= 9; changes++) {
            HiddenBids x = withLots(changes);
            for (int n = 1; n <= 5; n++) {
                x.undo();
                e.due("lots of " + changes + " undone " + n + " times", x.count(1), changes - Math.min(n, Math.min(changes, 4)));
            }
        }
        HiddenBids mixed = withLots(4);
        mixed.undo();
        mixed.undo();
        mixed.lot(11);
        mixed.lot(12);
        mixed.lot(13);
        e.due("two undone and three done", mixed.count(10), 4);
        e.row("lot # by two undone and three done", n -> mixed.lotOf(0, n), 1, 2, 11, 12, 13, Due.NONE);
        int[] last = {12, 11, 2, 1};
        for (int n = 0; n < 4; n++) {
            e.due("undo", mixed.undo(), 3 - n);
            e.due("lots then", mixed.count(1), 4 - n);
            e.due("the last one then", mixed.lotOf(0, 3 - n), last[n]);
            e.due("none behind it", mixed.lotOf(0, 4 - n), Due.NONE);
        }
    }

    private static HiddenBids withLots(int lots) {
        HiddenBids x = new HiddenBids();
        for (int n = 1; n <= lots; n++) x.lot(n);
        return x;
    }

    private void whatIsRecorded() {
        e.says("each change records everything before it but the text and the snapshot");
        for (Call call : CHANGES) {
            HiddenBids x = midGame();
            call.answer.applyAsInt(x);
            e.due("undo of " + call.name, x.undo(), 3);
            same("undo of " + call.name, Looks.state(x), Looks.state(midGame()));
            x = midGame();
            call.answer.applyAsInt(x);
            x.undo();
            same("bids and text behind the undo of " + call.name, Looks.future(x), Looks.future(midGame()));
        }
        HiddenBids resolved = midGame();
        resolved.bid(1, 1);
        int[] before = Looks.state(resolved);
        resolved.resolve();
        resolved.undo();
        same("undo of resolve", Looks.state(resolved), before);
        HiddenBids x = new HiddenBids();
        Due.write(x, "l1;");
        x.lot(1);
        x.type('x');
        x.keep();
        x.undo();
        e.due("the text is as it was typed", x.count(11), 4);
        e.due("the snapshot is there", x.count(12), 1);
        x.restore();
        e.due("with its lot", x.count(1), 1);
        x.lot(2);
        x.clearText();
        x.undo();
        e.due("the text stays empty", x.count(11), 0);
    }

    private void constants() {
        e.says("`INVALID_ARGUMENT = -1000001`: An argument is out of its range, or there is no such player");
        e.due("the constant", HiddenBids.INVALID_ARGUMENT, -1000001);
        e.due("lot(21)", new HiddenBids().lot(21), -1000001);
        e.due("bid(2, 0)", new HiddenBids().bid(2, 0), -1000001);
        e.says("`NOT_POSSIBLE = -1000002`: The call is not possible in the present state");
        e.due("the constant", HiddenBids.NOT_POSSIBLE, -1000002);
        e.due("resolve()", new HiddenBids().resolve(), -1000002);
        e.says("`LIMIT_REACHED = -1000003`: A fixed limit has been reached");
        e.due("the constant", HiddenBids.LIMIT_REACHED, -1000003);
        e.due("lot(1), the 21st", withLots(20).lot(1), -1000003);
        e.says("`NOT_FOUND = -1000004`: There is no such value");
        e.due("the constant", HiddenBids.NOT_FOUND, -1000004);
        e.due("lotOf(0, 0)", new HiddenBids().lotOf(0, 0), -1000004);
    }

    private void keep() {
        e.section("Promise 18: keep");
        e.says("Takes a snapshot of the state, in place of the one that was");
        HiddenBids x = new HiddenBids();
        x.lot(1);
        x.keep();
        x.lot(2);
        x.restore();
        e.due("lots of the first", x.count(1), 1);
        x.lot(2);
        x.lot(3);
        x.keep();
        x.lot(4);
        x.restore();
        e.due("lots of the second", x.count(1), 3);
        x.undo();
        x.undo();
        x.restore();
        e.due("not those of the first", x.count(1), 3);
        HiddenBids kept = midGame();
        kept.keep();
        same("keep changes no state", Looks.state(kept), Looks.state(midGame()));
        HiddenBids past = midGame();
        past.keep();
        same("keep changes no history", Looks.past(past), Looks.past(midGame()));
        e.says("Returns rounds so far");
        HiddenBids rounds = Due.game(2, 9);
        for (int n = 0; n < 14; n++) {
            e.due("after " + n, rounds.keep(), n);
            rounds.lot(1);
            Due.round(rounds, 0, n % 2);
        }
        rounds.begin(2, 9);
        e.due("in a new game", rounds.keep(), 0);
    }

    private void restore() {
        e.section("Promise 19: restore");
        e.says("Restores the state of the snapshot, which stays");
        HiddenBids x = new HiddenBids();
        x.keep();
        for (int n = 1; n <= 6; n++) {
            x.lot(n);
            e.due("rounds, time " + n, x.restore(), 0);
            e.due("lots, time " + n, x.count(1), 0);
            e.due("the snapshot stays, time " + n, x.count(12), 1);
        }
        e.says("Returns rounds so far then");
        HiddenBids rounds = Due.game(2, 9, 1, 1, 1);
        Due.round(rounds, 0, 0);
        Due.round(rounds, 0, 1);
        rounds.keep();
        Due.round(rounds, 0, 0);
        e.due("2, not 3", rounds.restore(), 2);
        rounds.begin(3, 1);
        e.due("2, not 0", rounds.restore(), 2);
        e.due("told by count too", rounds.count(5), 2);
        e.says("NOT_POSSIBLE if there is none");
        HiddenBids none = new HiddenBids();
        e.due("of a new object", none.restore(), Due.IMPOSSIBLE);
        none.lot(1);
        none.undo();
        e.due("a history is none", none.restore(), Due.IMPOSSIBLE);
        none.keep();
        e.due("the first one", none.restore(), 0);
        none.begin(4, 4);
        e.due("in another game", none.restore(), 0);
    }

    private void restoredState() {
        e.says("Restores the state of the snapshot, which stays");
        Supplier<HiddenBids> kept = () -> {
            HiddenBids x = midGame();
            x.keep();
            return x;
        };
        int[] before = Looks.state(kept.get());
        for (Call call : CHANGES) {
            HiddenBids x = kept.get();
            call.answer.applyAsInt(x);
            e.due("rounds, behind " + call.name, x.restore(), 3);
            same("restored behind " + call.name, Looks.state(x), before);
        }
        HiddenBids resolved = kept.get();
        resolved.bid(1, 9);
        resolved.resolve();
        resolved.restore();
        same("restored behind resolve", Looks.state(resolved), before);
        HiddenBids text = kept.get();
        text.clearText();
        text.type('l');
        text.restore();
        e.due("the text is no part of it", text.count(11), 1);
        HiddenBids history = kept.get();
        history.lot(3);
        history.restore();
        history.undo();
        e.due("the history goes on", history.count(1), 3);
        history.undo();
        e.due("to the state ahead of the lot", history.count(1), 2);
    }

    /** A round that is resolved again and again, with others in between, comes to the same each time. */
    private void doneAndUndone() {
        HiddenBids x = midGame();
        x.bid(1, 1);
        x.resolve();
        int[] tied = Looks.state(x);
        x = midGame();
        for (int bid = 5; bid >= 0; bid--) {
            x.bid(1, bid);
            x.resolve();
            x.undo();
            x.undo();
        }
        same("undone six times", Looks.state(x), Looks.state(midGame()));
        x = midGame();
        x.bid(1, 3);
        x.resolve();
        x.lot(1);
        x.undo();
        x.undo();
        x.bid(1, 1);
        e.due("resolved again by another bid", x.resolve(), -1);
        same("resolved again", Looks.state(x), tied);
        x.undo();
        x.bid(1, 0);
        x.resolve();
        x.undo();
        x.bid(1, 1);
        Due.write(x, "r;b0,4;b1,4;r;");
        x.fault(0);
        e.due("resolved once more, behind a look at the text", x.resolve(), -1);
        same("resolved once more", Looks.state(x), tied);
    }

    private void undo() {
        e.section("Promise 20: undo");
        e.says("Restores the latest state of the history, which is removed from it");
        HiddenBids x = new HiddenBids();
        x.set(0, 2);
        x.set(0, 3);
        x.set(0, 4);
        x.undo();
        e.due("the latest", x.count(20), 3);
        e.due("is removed", x.count(10), 2);
        x.undo();
        e.due("the one ahead of it", x.count(20), 2);
        e.due("is removed", x.count(10), 1);
        x.set(0, 5);
        x.undo();
        e.due("a new one in its place", x.count(20), 2);
        x.undo();
        e.due("the first", x.count(20), 1);
        doneAndUndone();
        HiddenBids again = midGame();
        again.begin(3, 3);
        again.undo();
        again.begin(4, 4);
        again.undo();
        same("done and undone twice", Looks.state(again), Looks.state(midGame()));
        e.says("Returns the number of states that are left in the history");
        HiddenBids six = withLots(6);
        int[] left = {3, 2, 1, 0, Due.IMPOSSIBLE, Due.IMPOSSIBLE};
        e.row("undo, time #", n -> six.undo(), left);
        HiddenBids one = withLots(1);
        e.row("undo of one, time #", n -> one.undo(), 0, Due.IMPOSSIBLE);
        e.says("NOT_POSSIBLE if it is empty");
        HiddenBids none = new HiddenBids();
        e.due("of a new object", none.undo(), Due.IMPOSSIBLE);
        none.lot(21);
        e.due("an error is no change", none.undo(), Due.IMPOSSIBLE);
        none.keep();
        none.type('x');
        e.due("nor a snapshot or a character", none.undo(), Due.IMPOSSIBLE);
        none.lot(20);
        e.due("a change", none.undo(), 0);
        e.due("undo is no change itself", none.undo(), Due.IMPOSSIBLE);
    }
}
