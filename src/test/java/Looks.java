import java.util.Arrays;
import java.util.List;
import java.util.function.Function;

/** All that can be seen of an object, in parts that each stay below 512 calls. */
final class Looks {
    static final List<Function<HiddenBids, int[]>> ALL = List.of(Looks::state, Looks::objects, Looks::past, Looks::future);

    private final HiddenBids x;
    private final int[] seen = new int[512];
    private int size;

    private Looks(HiddenBids x) {
        this.x = x;
    }

    private void add(int answer) {
        seen[size++] = answer;
    }

    private int[] all() {
        return Arrays.copyOf(seen, size);
    }

    /** What a change records: all but the text, the snapshot and the history. */
    static int[] state(HiddenBids x) {
        Looks looks = new Looks(x);
        looks.numbers();
        looks.players();
        looks.lotsAndRounds();
        looks.advice();
        return looks.all();
    }

    private void numbers() {
        for (int what = 0; what <= 9; what++) add(x.count(what));
        for (int what = 20; what <= 22; what++) add(x.count(what));
        add(x.winner());
    }

    private void players() {
        for (int player = 0; player < x.count(0); player++) {
            for (int what = 0; what <= 5; what++) add(x.playerOf(player, what));
        }
    }

    private void lotsAndRounds() {
        for (int index = 0; index < 20; index++) add(x.lotOf(0, index));
        for (int index = 0; index < 5; index++) add(x.lotOf(1, index));
        for (int back = 0; back < 5; back++) {
            for (int what = 0; what <= 3; what++) add(x.roundOf(back, what));
            for (int player = 0; player < x.count(0); player++) add(x.roundOf(back, 10 + player));
        }
        for (int index = 0; index < 10; index++) {
            for (int what = 0; what <= 3; what++) add(x.record(index, what));
        }
    }

    /** The replies tell the bids. */
    private void advice() {
        for (int player = 0; player < x.count(0); player++) {
            add(x.sure(player));
            add(x.reply(player));
            add(x.chance(player));
            for (int depth = 0; depth <= 2; depth++) add(x.holds(player, depth));
        }
    }

    /** The history's size, the text and whether there is a snapshot. */
    static int[] objects(HiddenBids x) {
        Looks looks = new Looks(x);
        for (int what = 10; what <= 12; what++) looks.add(x.count(what));
        for (int what = 0; what <= 2; what++) looks.add(x.fault(what));
        return looks.all();
    }

    /** The states of the history, one behind the other. */
    static int[] past(HiddenBids x) {
        Looks looks = new Looks(x);
        for (int undone = 0; undone < 5; undone++) {
            looks.add(x.undo());
            looks.numbers();
            looks.players();
            looks.add(x.reply(0));
            looks.add(x.reply(1));
            looks.add(x.roundOf(0, 2));
        }
        return looks.all();
    }

    /** What comes of the text, of the bids that are made, and of the snapshot. */
    static int[] future(HiddenBids x) {
        Looks looks = new Looks(x);
        looks.add(x.play());
        looks.numbers();
        for (int player = 0; player < x.count(0); player++) looks.add(x.bid(player, player));
        looks.add(x.resolve());
        looks.add(x.restore());
        looks.numbers();
        looks.players();
        looks.add(x.clearText());
        return looks.all();
    }
}
