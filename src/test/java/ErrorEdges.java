import java.util.List;
import java.util.function.Function;
import java.util.function.Supplier;
import java.util.function.ToIntFunction;

/** The sentences of "Changes and errors" on errors: each refused call in several states, and what it leaves. */
final class ErrorEdges {
    private record Refused(String call, ToIntFunction<HiddenBids> answer, int want) {
    }

    /** Refused in every game: arguments that are out of range always. */
    private static final List<Refused> ALWAYS = List.of(
        new Refused("begin(1, 5)", x -> x.begin(1, 5), Due.INVALID),
        new Refused("begin(5, 5)", x -> x.begin(5, 5), Due.INVALID),
        new Refused("begin(2, -1)", x -> x.begin(2, -1), Due.INVALID),
        new Refused("begin(2, 31)", x -> x.begin(2, 31), Due.INVALID),
        new Refused("lot(-10)", x -> x.lot(-10), Due.INVALID),
        new Refused("lot(21)", x -> x.lot(21), Due.INVALID),
        new Refused("bid(-1, 0)", x -> x.bid(-1, 0), Due.INVALID),
        new Refused("bid(4, 0)", x -> x.bid(4, 0), Due.INVALID),
        new Refused("bid(0, -1)", x -> x.bid(0, -1), Due.INVALID),
        new Refused("bid(0, 130)", x -> x.bid(0, 130), Due.IMPOSSIBLE),
        new Refused("resolve()", x -> x.resolve(), Due.IMPOSSIBLE),
        new Refused("set(-1, 0)", x -> x.set(-1, 0), Due.INVALID),
        new Refused("set(3, 0)", x -> x.set(3, 0), Due.INVALID),
        new Refused("set(0, 6)", x -> x.set(0, 6), Due.INVALID),
        new Refused("set(1, 6)", x -> x.set(1, 6), Due.INVALID),
        new Refused("set(2, 2)", x -> x.set(2, 2), Due.INVALID),
        new Refused("set(2, -1)", x -> x.set(2, -1), Due.INVALID),
        new Refused("playerOf(4, 0)", x -> x.playerOf(4, 0), Due.INVALID),
        new Refused("playerOf(0, 6)", x -> x.playerOf(0, 6), Due.INVALID),
        new Refused("lotOf(2, 0)", x -> x.lotOf(2, 0), Due.INVALID),
        new Refused("lotOf(0, -1)", x -> x.lotOf(0, -1), Due.INVALID),
        new Refused("lotOf(0, 20)", x -> x.lotOf(0, 20), Due.NONE),
        new Refused("lotOf(1, 20)", x -> x.lotOf(1, 20), Due.NONE),
        new Refused("roundOf(-1, 0)", x -> x.roundOf(-1, 0), Due.INVALID),
        new Refused("roundOf(0, 4)", x -> x.roundOf(0, 4), Due.INVALID),
        new Refused("roundOf(0, 14)", x -> x.roundOf(0, 14), Due.INVALID),
        new Refused("roundOf(12, 0)", x -> x.roundOf(12, 0), Due.NONE),
        new Refused("record(-1, 0)", x -> x.record(-1, 0), Due.INVALID),
        new Refused("record(0, 4)", x -> x.record(0, 4), Due.INVALID),
        new Refused("record(99, 0)", x -> x.record(99, 0), Due.NONE),
        new Refused("count(13)", x -> x.count(13), Due.INVALID),
        new Refused("count(23)", x -> x.count(23), Due.INVALID),
        new Refused("sure(4)", x -> x.sure(4), Due.INVALID),
        new Refused("reply(4)", x -> x.reply(4), Due.INVALID),
        new Refused("reply(0)", x -> x.reply(0), Due.IMPOSSIBLE),
        new Refused("holds(4, 0)", x -> x.holds(4, 0), Due.INVALID),
        new Refused("holds(0, 3)", x -> x.holds(0, 3), Due.INVALID),
        new Refused("holding(4, 1)", x -> x.holding(4, 1), Due.INVALID),
        new Refused("holding(0, 0)", x -> x.holding(0, 0), Due.INVALID),
        new Refused("chance(4)", x -> x.chance(4), Due.INVALID),
        new Refused("type(31)", x -> x.type(31), Due.INVALID),
        new Refused("type(127)", x -> x.type(127), Due.INVALID),
        new Refused("fault(-1)", x -> x.fault(-1), Due.INVALID),
        new Refused("fault(3)", x -> x.fault(3), Due.INVALID));

    private static final List<Refused> OF_A_NEW_OBJECT = List.of(
        new Refused("bid(0, 0)", x -> x.bid(0, 0), Due.IMPOSSIBLE),
        new Refused("bid(2, 0)", x -> x.bid(2, 0), Due.INVALID),
        new Refused("playerOf(2, 0)", x -> x.playerOf(2, 0), Due.INVALID),
        new Refused("lotOf(0, 0)", x -> x.lotOf(0, 0), Due.NONE),
        new Refused("roundOf(0, 0)", x -> x.roundOf(0, 0), Due.NONE),
        new Refused("roundOf(0, 12)", x -> x.roundOf(0, 12), Due.INVALID),
        new Refused("record(0, 0)", x -> x.record(0, 0), Due.NONE),
        new Refused("sure(0)", x -> x.sure(0), Due.IMPOSSIBLE),
        new Refused("holding(0, 1)", x -> x.holding(0, 1), Due.IMPOSSIBLE),
        new Refused("restore()", x -> x.restore(), Due.IMPOSSIBLE),
        new Refused("undo()", x -> x.undo(), Due.IMPOSSIBLE),
        new Refused("fault(0)", x -> x.fault(0), Due.NONE));

    private static final List<Refused> OF_A_GAME = List.of(
        new Refused("bid(0, 5)", x -> x.bid(0, 5), Due.IMPOSSIBLE),
        new Refused("bid(2, 0)", x -> x.bid(2, 0), Due.INVALID),
        new Refused("lotOf(1, 1)", x -> x.lotOf(1, 1), Due.NONE),
        new Refused("sure(0)", x -> x.sure(0), Due.NONE),
        new Refused("holds(2, 0)", x -> x.holds(2, 0), Due.INVALID),
        new Refused("holding(2, 1)", x -> x.holding(2, 1), Due.INVALID),
        new Refused("fault(2)", x -> x.fault(2), Due.NONE),
        new Refused("play()", x -> x.play(), Due.IMPOSSIBLE));

    private static final List<Refused> OF_A_FULL_OBJECT = List.of(
        new Refused("lot(5)", x -> x.lot(5), Due.FULL),
        new Refused("type('l')", x -> x.type('l'), Due.FULL),
        new Refused("bid(0, 9)", x -> x.bid(0, 9), Due.IMPOSSIBLE),
        new Refused("bid(3, 0)", x -> x.bid(3, 0), Due.INVALID),
        new Refused("roundOf(0, 13)", x -> x.roundOf(0, 13), Due.INVALID),
        new Refused("holds(0, 0)", x -> x.holds(0, 0), Due.IMPOSSIBLE),
        new Refused("holding(0, 1)", x -> x.holding(0, 1), Due.IMPOSSIBLE),
        new Refused("restore()", x -> x.restore(), Due.IMPOSSIBLE),
        new Refused("play()", x -> x.play(), Due.IMPOSSIBLE));

    private final Edges e;

    private ErrorEdges(Edges e) {
        this.e = e;
    }

    static void test(Edges e) {
        ErrorEdges edges = new ErrorEdges(e);
        edges.order();
        edges.noSuchPlayer();
        edges.changesNothing();
    }

    private void order() {
        e.section("Changes and errors");
        e.says("If several errors apply to a call, INVALID_ARGUMENT is returned rather than NOT_POSSIBLE");
        HiddenBids over = new HiddenBids();
        e.row("bid(#, 0) without lots", n -> over.bid(n, 0), Due.IMPOSSIBLE, Due.IMPOSSIBLE, Due.INVALID);
        e.due("bid(0, -1) without lots", over.bid(0, -1), Due.INVALID);
        e.due("bid(2, 99) without lots", over.bid(2, 99), Due.INVALID);
        e.row("sure(#) without lots", over::sure, Due.IMPOSSIBLE, Due.IMPOSSIBLE, Due.INVALID);
        e.row("reply(#) without lots", over::reply, Due.IMPOSSIBLE, Due.IMPOSSIBLE, Due.INVALID);
        e.row("holding(#, 1) without lots", n -> over.holding(n, 1), Due.IMPOSSIBLE, Due.IMPOSSIBLE, Due.INVALID);
        e.row("holding(0, #) without lots", depth -> over.holding(0, depth), Due.INVALID, Due.IMPOSSIBLE, Due.IMPOSSIBLE,
            Due.INVALID);
        HiddenBids lot = Due.game(3, 9, 1);
        e.due("bid(0, 10) by 9 coins", lot.bid(0, 10), Due.IMPOSSIBLE);
        e.due("bid(3, 10) of 3", lot.bid(3, 10), Due.INVALID);
        e.row("reply(#) without bids of 3", lot::reply, Due.IMPOSSIBLE, Due.IMPOSSIBLE, Due.IMPOSSIBLE, Due.INVALID);
        e.row("holds(#, 0) of 3", n -> lot.holds(n, 0), Due.IMPOSSIBLE, Due.IMPOSSIBLE, Due.IMPOSSIBLE, Due.INVALID);
        e.row("holds(0, #) of 3", depth -> lot.holds(0, depth), Due.IMPOSSIBLE, Due.IMPOSSIBLE, Due.IMPOSSIBLE, Due.INVALID);
        e.says("NOT_POSSIBLE rather than LIMIT_REACHED, and LIMIT_REACHED rather than NOT_FOUND");
        HiddenBids full = fullObject();
        e.each("lot(#) when it is full", full::lot, Due.INVALID, -10, 21);
        e.each("lot(#) when it is full", full::lot, Due.FULL, -9, 20);
        e.each("type(#) when it is full", full::type, Due.INVALID, 31, 127);
        e.each("type(#) when it is full", full::type, Due.FULL, 32, 126);
        e.due("a text whose fault is a limit", full.play(), Due.IMPOSSIBLE);
        e.due("sure by equal coins when the game is over", over.sure(0), Due.IMPOSSIBLE);
        e.due("sure by equal coins", Due.game(2, 9, 1).sure(0), Due.NONE);
        e.row("lotOf(#, 0) without lots", where -> over.lotOf(where, 0), Due.NONE, Due.NONE, Due.INVALID);
        e.row("roundOf(0, #) without rounds", what -> over.roundOf(0, what), Due.NONE, Due.NONE, Due.NONE, Due.NONE, Due.INVALID);
        e.due("roundOf(-1, 0) without rounds", over.roundOf(-1, 0), Due.INVALID);
        e.row("record(0, #) without rounds", what -> over.record(0, what), Due.NONE, Due.NONE, Due.NONE, Due.NONE, Due.INVALID);
        e.due("record(-1, 0) without rounds", over.record(-1, 0), Due.INVALID);
        e.row("fault(#) without a text", over::fault, Due.NONE, Due.NONE, Due.NONE, Due.INVALID);
    }

    private void noSuchPlayer() {
        e.says("If there is no player with a certain number, this is INVALID_ARGUMENT");
        for (int players = 2; players <= 4; players++) {
            HiddenBids x = Due.game(players, 9, 1, 1);
            Due.round(x, new int[players]);
            for (int n : new int[] {Edges.MIN, -1, players, players + 1, Edges.MAX}) {
                String arguments = "(" + n + ", ..) of " + players;
                e.due("bid" + arguments, x.bid(n, 0), Due.INVALID);
                for (int what = 0; what <= 5; what++) e.due("playerOf" + arguments, x.playerOf(n, what), Due.INVALID);
                e.due("roundOf(0, 10 + n) for " + arguments, x.roundOf(0, 10 + n), Due.INVALID);
                e.due("sure" + arguments, x.sure(n), Due.INVALID);
                e.due("reply" + arguments, x.reply(n), Due.INVALID);
                for (int depth = 0; depth <= 2; depth++) e.due("holds" + arguments, x.holds(n, depth), Due.INVALID);
                for (int depth = 1; depth <= 2; depth++) e.due("holding" + arguments, x.holding(n, depth), Due.INVALID);
                e.due("chance" + arguments, x.chance(n), Due.INVALID);
            }
            int last = players - 1;
            e.due("roundOf of the last of " + players, x.roundOf(0, 10 + last), 0);
            e.due("sure of the last of " + players, x.sure(last), Due.NONE);
            e.due("chance of the last of " + players, x.chance(last), 1);
            e.due("bid of the last of " + players, x.bid(last, 0), 1);
            Due.write(x, "b" + players + ",0;");
            e.due("cause of the text for " + players, x.fault(2), Due.INVALID);
        }
    }

    private void changesNothing() {
        e.says("A call that returns an error changes nothing");
        refuse("a new object", HiddenBids::new, OF_A_NEW_OBJECT);
        refuse("a game", ErrorEdges::game, OF_A_GAME);
        refuse("a full object", ErrorEdges::fullObject, OF_A_FULL_OBJECT);
        for (String text : new String[] {"l1;b0,1;r;", "l1;l1;l21;", "l1;b0,1;b1,0;r;b0,99;", "l1;b0,1;b1,0;r;x", "l1;l1"}) {
            Supplier<HiddenBids> typed = () -> {
                HiddenBids x = Due.game(2, 9, 4);
                Due.write(x, text);
                return x;
            };
            refuse("the text " + text, typed, List.of(new Refused("play()", x -> x.play(), Due.IMPOSSIBLE)));
        }
    }

    /** Four coins of player 0 and twelve of player 1, a lot on the table, one in the row; the text has a fault of form. */
    private static HiddenBids game() {
        HiddenBids x = Due.game(2, 9, 4, -3, 2, 6);
        Due.round(x, 3, 3);
        x.keep();
        x.set(1, 1);
        Due.round(x, 3, 2);
        x.set(2, 0);
        Due.round(x, 1, 1);
        Due.write(x, "l5;b1,0");
        x.bid(0, 1);
        return x;
    }

    /** Three players, 20 lots, 60 characters, 4 states. */
    private static HiddenBids fullObject() {
        HiddenBids x = Due.game(3, 9);
        for (int n = 1; n <= 20; n++) x.lot(n);
        Due.round(x, 2, 2, 1);
        x.bid(0, 1);
        x.bid(1, 1);
        Due.write(x, "l1;".repeat(20));
        return x;
    }

    private void refuse(String where, Supplier<HiddenBids> made, List<Refused> more) {
        for (Refused refused : more) refuse(where, made, refused);
        if (more.size() == 1) return;
        for (Refused refused : ALWAYS) refuse(where, made, refused);
    }

    /** Compares all that can be seen behind the refused call with what is seen without it. */
    private void refuse(String where, Supplier<HiddenBids> made, Refused refused) {
        for (Function<HiddenBids, int[]> look : Looks.ALL) {
            HiddenBids x = made.get();
            String told = refused.call + " of " + where;
            e.due(told, refused.answer.applyAsInt(x), refused.want);
            e.due(told + ", again", refused.answer.applyAsInt(x), refused.want);
            int[] got = look.apply(x);
            int[] want = look.apply(made.get());
            for (int i = 0; i < want.length; i++) e.due(told + ", look " + i, i < got.length ? got[i] : Edges.MIN, want[i]);
        }
    }
}
