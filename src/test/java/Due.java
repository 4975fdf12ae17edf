/** Compares answers with what is due, and ends a test with exit code 1 if one was wrong. */
final class Due {
    static final int INVALID = -1000001;
    static final int IMPOSSIBLE = -1000002;
    static final int FULL = -1000003;
    static final int NONE = -1000004;

    private final String part;
    private int asked;
    private int wrong;

    Due(String part) {
        this.part = part;
    }

    void due(String call, long got, long want) {
        asked++;
        if (got == want) return;
        wrong++;
        System.out.println(part + ": " + call + " answered " + got + ", due is " + want);
    }

    void isTrue(String claim, boolean holds) {
        due(claim, holds ? 1 : 0, 1);
    }

    void end() {
        System.out.println(part + ": " + asked + " answers, " + wrong + " wrong");
        if (wrong > 0 || asked == 0) System.exit(1);
    }

    /** Types a text, which is cleared first. */
    static void write(HiddenBids x, String text) {
        x.clearText();
        for (int i = 0; i < text.length(); i++) x.type(text.charAt(i));
    }

    /** Makes the bids of the players 0, 1, .. and resolves the round. */
    static int round(HiddenBids x, int... bids) {
        for (int player = 0; player < bids.length; player++) x.bid(player, bids[player]);
        return x.resolve();
    }

    static HiddenBids game(int players, int coins, int... lots) {
        HiddenBids x = new HiddenBids();
        x.begin(players, coins);
        for (int lot : lots) x.lot(lot);
        return x;
    }

    /** A game of two where player 0 has paid a bid for a lot of 0, which is not shared: so player 1 is the richer one. */
    static HiddenBids poorer(int coins, int bid, int... lots) {
        HiddenBids x = game(2, coins, 0);
        for (int lot : lots) x.lot(lot);
        x.set(2, 0);
        round(x, bid, 0);
        return x;
    }
}
