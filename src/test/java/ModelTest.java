import java.util.Random;

/** Runs of 512 calls, always the same ones, compared with the answers of Model. */
public final class ModelTest {
    private static final Due D = new Due("ModelTest");
    private static final int[] EXTREMES = {Integer.MIN_VALUE, Integer.MAX_VALUE, -1000001, 1000000, -1, 127, 61, 31, 13};
    private static final String[] PIECES = {"l5;", "l-3;", "l20;", "l09;", "b0,1;", "b1,2;", "b2,0;", "b3,1;", "b00,03;",
        "b1,1;", "b0,0;b1,0;r;", "l4;b0,2;b1,2;r;", "r;", "l21;", "b0,", ";", "l", "-", "7", "b4,1;", "b0,99;", " "};

    private final Random random;
    private final HiddenBids program = new HiddenBids();
    private final Model model = new Model();
    private final int run;
    // Small games can be looked ahead by trying everything.
    private final int mostCoins;
    private int calls;

    private ModelTest(int run) {
        this.run = run;
        random = new Random(run);
        mostCoins = run % 3 == 0 ? 30 : 5;
    }

    public static void main(String[] args) {
        for (int run = 0; run < 1500; run++) new ModelTest(run).run();
        D.end();
    }

    private void run() {
        if (mostCoins < 30) begin();
        while (calls < 512) {
            int kind = random.nextInt(100);
            if (kind < 1) begin();
            else if (kind < 16) lot();
            else if (kind < 46) bid();
            else if (kind < 60) resolve();
            else if (kind < 85) look();
            else if (kind < 93) changeBack();
            else text();
        }
    }

    private void same(String call, int got, int due) {
        calls++;
        if (calls <= 512) D.due("run " + run + ", call " + calls + ": " + call, got, due);
    }

    private int any(int least, int greatest) {
        if (random.nextInt(60) == 0) return EXTREMES[random.nextInt(EXTREMES.length)];
        int wide = random.nextInt(15) == 0 ? 1 : 0;
        return least - wide + random.nextInt(greatest - least + 1 + 2 * wide);
    }

    private int player() {
        return any(0, model.count(0) - 1);
    }

    private void begin() {
        int players = any(2, random.nextBoolean() ? 2 : 4);
        int coins = any(0, mostCoins);
        if (coins > mostCoins && coins <= 30) coins = mostCoins;
        same("begin(" + players + ", " + coins + ")", program.begin(players, coins), model.begin(players, coins));
    }

    private void lot() {
        int value = any(-9, 20);
        same("lot(" + value + ")", program.lot(value), model.lot(value));
    }

    private void bid() {
        int player = player();
        int coins = any(0, random.nextBoolean() ? 2 : Math.max(0, model.playerOf(player, 0)));
        same("bid(" + player + ", " + coins + ")", program.bid(player, coins), model.bid(player, coins));
    }

    private void resolve() {
        for (int player = 0; player < model.count(0) && random.nextInt(12) > 0; player++) {
            if (model.playerOf(player, 2) == 1 || model.count(1) == 0) continue;
            int coins = random.nextInt(Math.min(3 + random.nextInt(40), model.playerOf(player, 0) + 1));
            same("bid(" + player + ", " + coins + ")", program.bid(player, coins), model.bid(player, coins));
        }
        same("resolve()", program.resolve(), model.resolve());
    }

    private void changeBack() {
        int kind = random.nextInt(8);
        if (kind == 0) same("keep()", program.keep(), model.keep());
        if (kind == 1) same("restore()", program.restore(), model.restore());
        if (kind > 4) same("undo()", program.undo(), model.undo());
        if (kind > 1 && kind < 5) {
            int what = any(0, 2);
            int value = any(0, what == 2 ? 1 : 5);
            same("set(" + what + ", " + value + ")", program.set(what, value), model.set(what, value));
        }
    }

    private void text() {
        int kind = random.nextInt(8);
        if (kind == 0) same("clearText()", program.clearText(), model.clearText());
        if (kind == 1 || kind == 2) same("play()", program.play(), model.play());
        if (kind == 3) {
            int character = any(32, 126);
            same("type(" + character + ")", program.type(character), model.type(character));
        }
        if (kind > 3) {
            if (model.fault(1) == 1 && random.nextInt(3) > 0) same("clearText()", program.clearText(), model.clearText());
            String piece = PIECES[random.nextInt(PIECES.length)];
            for (char one : piece.toCharArray()) same("type(" + one + ")", program.type(one), model.type(one));
        }
        for (int what = 0; what <= 2; what++) same("fault(" + what + ")", program.fault(what), model.fault(what));
    }

    private void look() {
        int player = player();
        switch (random.nextInt(14)) {
            case 0: lookAt("playerOf", player, any(0, 5)); break;
            case 1: lookAt("lotOf", any(0, 1), any(0, 20)); break;
            case 2: lookAt("roundOf", any(0, 13), random.nextBoolean() ? any(0, 3) : any(10, 13)); break;
            case 3: lookAt("record", any(0, Math.max(0, model.count(9) - 1)), any(0, 3)); break;
            case 4: lookAt("count", any(0, 12), 0); break;
            case 5: lookAt("count", any(20, 22), 0); break;
            case 6: lookAt("winner", 0, 0); break;
            case 7: lookAt("sure", player, 0); break;
            case 8: case 9: lookAt("reply", player, 0); break;
            case 10: lookAhead("holds", player, any(0, 2)); break;
            case 11: lookAhead("holding", player, any(1, 2)); break;
            case 12: lookAt("chance", player, 0); break;
            default: lookAt("fault", any(0, 2), 0);
        }
    }

    private void lookAhead(String call, int player, int depth) {
        if (depth == 2 && model.count(0) == 2 && model.count(8) > 10 && model.count(1) > 1) return;
        lookAt(call, player, depth);
    }

    private void lookAt(String call, int first, int second) {
        String told = call + "(" + first + ", " + second + ")";
        switch (call) {
            case "playerOf": same(told, program.playerOf(first, second), model.playerOf(first, second)); break;
            case "lotOf": same(told, program.lotOf(first, second), model.lotOf(first, second)); break;
            case "roundOf": same(told, program.roundOf(first, second), model.roundOf(first, second)); break;
            case "record": same(told, program.record(first, second), model.record(first, second)); break;
            case "count": same(told, program.count(first), model.count(first)); break;
            case "winner": same(told, program.winner(), model.winner()); break;
            case "sure": same(told, program.sure(first), model.sure(first)); break;
            case "reply": same(told, program.reply(first), model.reply(first)); break;
            case "holds": same(told, program.holds(first, second), model.holds(first, second)); break;
            case "holding": same(told, program.holding(first, second), model.holding(first, second)); break;
            case "chance": same(told, program.chance(first), model.chance(first)); break;
            default: same(told, program.fault(first), model.fault(first));
        }
    }
}
