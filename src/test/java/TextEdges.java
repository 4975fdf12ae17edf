/** The sentences of "Texts" and of the promises 21 to 24: type, clearText, fault, play. */
final class TextEdges {
    private final Edges e;

    private TextEdges(Edges e) {
        this.e = e;
    }

    static void test(Edges e) {
        TextEdges edges = new TextEdges(e);
        edges.text();
        edges.forms();
        edges.digits();
        edges.position();
        edges.reason();
        edges.cause();
        edges.type();
        edges.clearText();
        edges.fault();
        edges.play();
        edges.playNotPossible();
    }

    private static HiddenBids typed(String text) {
        HiddenBids x = new HiddenBids();
        Due.write(x, text);
        return x;
    }

    /** A new object takes all of these texts, and plays this many commands. */
    private void right(int commands, String... texts) {
        for (String text : texts) {
            e.row("fault(#) of " + text, what -> typed(text).fault(what), Due.NONE, Due.NONE, Due.NONE, Due.INVALID);
            e.due("play() of " + text, typed(text).play(), commands);
        }
    }

    private void wrongForm(int position, String... texts) {
        for (String text : texts) {
            e.row("fault(#) of " + text, what -> typed(text).fault(what), position, 1, Due.NONE, Due.INVALID);
            e.due("play() of " + text, typed(text).play(), Due.IMPOSSIBLE);
        }
    }

    private void wrongCall(int position, int cause, String... texts) {
        for (String text : texts) {
            e.row("fault(#) of " + text, what -> typed(text).fault(what), position, 2, cause, Due.INVALID);
            e.due("play() of " + text, typed(text).play(), Due.IMPOSSIBLE);
        }
    }

    private void text() {
        e.section("Texts");
        e.says("There is a text of at most 60 characters");
        HiddenBids x = new HiddenBids();
        for (int length = 1; length <= 60; length++) e.due("character " + length, x.type('r'), length);
        e.due("character 61", x.type('r'), Due.FULL);
        e.due("length", x.count(11), 60);
        e.says("initially empty");
        e.due("length", new HiddenBids().count(11), 0);
        e.due("clearText", new HiddenBids().clearText(), 0);
        e.due("commands", new HiddenBids().play(), 0);
    }

    private void forms() {
        e.says("commands, each followed by \";\"");
        right(1, "l1;");
        right(2, "l1;l2;");
        wrongForm(0, "l1", "l1l2;", "l1,l2;", "l1:l2;", ";", ";l1;", "l1 ;", " l1;", "l1,;");
        wrongForm(3, "l1;l2", "l1;;", "l1;;l2;", "l1; ", "l1; l2;", "l1;x;");
        e.says("\"l\" a value, perhaps with \"-\" ahead (a lot behind the row)");
        right(1, "l0;", "l20;", "l-0;", "l-1;", "l-9;");
        wrongCall(0, Due.INVALID, "l21;", "l-10;", "l99;", "l-99;");
        wrongForm(0, "l;", "l-;", "l--1;", "l+1;", "l1-;", "L1;", "1;", "-1;", "l,1;", "l1,1;", "l-", "l", "l1");
        HiddenBids lots = typed("l7;l-3;");
        lots.lot(1);
        lots.play();
        e.row("lot # of the row", n -> lots.lotOf(0, n), 1, 7, -3, Due.NONE);
        e.says("\"b\" a player \",\" coins (a bid)");
        right(2, "l1;b0,0;", "l1;b1,0;", "l1;b0,20;", "l1;b1,20;");
        wrongCall(3, Due.INVALID, "l1;b2,0;", "l1;b99,0;", "l1;b2,99;");
        wrongCall(3, Due.IMPOSSIBLE, "l1;b0,21;", "l1;b0,99;");
        wrongForm(0, "b;", "b0;", "b0,;", "b,0;", "b,;", "b-0,1;", "b-1,1;", "b0,-1;", "b0,,1;", "b0;1;", "b0 1;", "b01;",
            "b0,1,1;", "B0,1;", "b", "b0", "b0,", "b0,1");
        HiddenBids bids = typed("l1;b1,5;b0,4;");
        bids.play();
        e.due("bids", bids.count(7), 2);
        e.due("the one of player 1 is greater", bids.resolve(), 1);
        e.row("bid of player #", n -> bids.roundOf(0, 10 + n), 4, 5);
        e.says("or \"r\" (resolved)");
        right(4, "l1;b0,1;b1,2;r;", "l1;b0,1;b1,1;r;");
        wrongCall(8, Due.IMPOSSIBLE, "l1;b0,1;r;");
        wrongForm(0, "r", "R;", "rr;", "r0;", "r-;", "r ;", "r,;", "x;", "c;", "q;");
        HiddenBids round = typed("l1;b0,1;b1,2;r;");
        round.play();
        e.due("rounds", round.count(5), 1);
        e.due("won", round.playerOf(1, 3), 1);
    }

    private void digits() {
        e.says("numbers of one or two digits, 0 ahead allowed");
        right(1, "l7;", "l07;", "l-7;", "l-07;", "l0;", "l00;", "l-00;", "l10;", "l19;", "l9;", "l09;");
        wrongForm(0, "l;", "l007;", "l100;", "l000;", "l-007;", "l-;", "l0007;");
        right(2, "l1;b0,7;", "l1;b00,7;", "l1;b01,07;", "l1;b1,00;", "l1;b01,10;", "l1;b1,09;");
        wrongForm(0, "b000,7;", "b001,7;", "b0,007;", "b0,100;", "b,7;", "b0,;");
        wrongForm(0, "l/;", "l:;", "b/,1;", "b:,1;", "b0,/;", "b0,:;", "l1/;", "l1:;", "la;");
        String[] texts = {"l7;", "l07;", "l17;", "l-7;", "l-07;", "l0;", "l-0;"};
        int[] values = {7, 7, 17, -7, -7, 0, 0};
        for (int n = 0; n < texts.length; n++) {
            HiddenBids x = typed(texts[n]);
            x.play();
            e.due("value of " + texts[n], x.lotOf(0, 0), values[n]);
        }
        String[] bids = {"l1;b0,7;b1,8;r;", "l1;b00,07;b01,08;r;", "l1;b0,19;b01,20;r;"};
        int[] coins = {7, 7, 19};
        for (int n = 0; n < bids.length; n++) {
            HiddenBids x = typed(bids[n]);
            x.play();
            e.row("bid of # by " + bids[n], player -> x.roundOf(0, 10 + player), coins[n], coins[n] + 1);
        }
    }

    private void position() {
        e.says("The fault of the text is the position, from 0, of the first character of the first command that is not possible");
        wrongForm(0, "x");
        wrongCall(0, Due.INVALID, "l21;l1;");
        wrongForm(3, "l1;x;l21;");
        wrongCall(4, Due.INVALID, "l01;l21;x;");
        wrongCall(5, Due.INVALID, "l-01;l21;x");
        wrongForm(8, "l1;b0,9;;");
        wrongForm(57, "l1;".repeat(19) + "l1", "l1;".repeat(19) + "xxx");
        wrongCall(57, Due.IMPOSSIBLE, "l1;".repeat(19) + "r;");
        wrongCall(58, Due.IMPOSSIBLE, "l01;" + "l1;".repeat(18) + "r;");
        wrongForm(59, "l01;l01;" + "l1;".repeat(17) + "r");
        right(20, "l1;".repeat(20));
        e.says("when those ahead of it are done");
        wrongCall(0, Due.IMPOSSIBLE, "b0,1;l1;");
        right(2, "l1;b0,1;");
        wrongCall(15, Due.IMPOSSIBLE, "l1;b0,1;b1,0;r;b0,1;");
        right(6, "l1;b0,1;b1,0;r;l1;b0,1;");
        wrongCall(19, Due.IMPOSSIBLE, "l1;b0,20;b1,9;r;l1;b0,1;", "l1;b0,20;b1,9;r;l1;b1,41;");
        right(6, "l1;b0,20;b1,9;r;l1;b0,0;", "l1;b0,20;b1,9;r;l1;b1,40;");
        HiddenBids x = typed("b0,1;b1,2;r;");
        e.due("position without a lot", x.fault(0), 0);
        x.lot(1);
        e.due("position with a lot", x.fault(0), Due.NONE);
        e.due("nothing is done by it", x.count(7), 0);
        x.bid(0, 3);
        x.bid(1, 2);
        x.resolve();
        e.due("position when the lot is won", x.fault(0), 0);
        x.undo();
        e.due("position when this is undone", x.fault(0), Due.NONE);
    }

    private void reason() {
        e.says("its reason is 1 if it is not of this form, its \";\" included, and otherwise 2");
        wrongCall(0, Due.INVALID, "l21;");
        wrongForm(0, "l21", "l21,", "l021;");
        wrongCall(0, Due.IMPOSSIBLE, "r;", "b0,0;");
        wrongForm(0, "r", "b0,0", "rx;");
        wrongCall(0, Due.INVALID, "b9,0;");
        wrongForm(0, "b9,0", "b9;");
        wrongCall(3, Due.INVALID, "l1;l21;x", "l1;l21;l");
        wrongForm(3, "l1;x;l21;", "l1;l;l21;");
    }

    private void cause() {
        e.says("its cause is then the error code that the call returns for it");
        wrongCall(0, Due.INVALID, "l21;", "l-10;", "b2,0;", "b2,99;");
        wrongCall(0, Due.IMPOSSIBLE, "r;", "b0,0;", "b1,99;");
        HiddenBids x = typed("l1;".repeat(20));
        e.row("fault(#) with 20 places", x::fault, Due.NONE, Due.NONE, Due.NONE);
        x.lot(1);
        e.row("fault(#) with 19 places", x::fault, 57, 2, Due.FULL);
        for (int n = 2; n <= 20; n++) x.lot(n);
        e.row("fault(#) with no place", x::fault, 0, 2, Due.FULL);
        Due.write(x, "l21;");
        e.row("fault(#) with no place and 21", x::fault, 0, 2, Due.INVALID);
        e.due("cause of a wrong form", typed("l21").fault(2), Due.NONE);
    }

    private void type() {
        e.section("Promise 21: type");
        e.says("Appends a character to the text");
        HiddenBids x = new HiddenBids();
        x.type('l');
        x.type('7');
        e.due("a command without its end", x.fault(1), 1);
        x.type(';');
        e.due("a whole command", x.fault(1), Due.NONE);
        x.play();
        e.due("its lot", x.lotOf(0, 0), 7);
        e.says("`character`: 32 to 126");
        HiddenBids all = new HiddenBids();
        for (int character = 32; character <= 91; character++) e.due("type(" + character + ")", all.type(character), character - 31);
        all.clearText();
        for (int character = 92; character <= 126; character++) e.due("type(" + character + ")", all.type(character), character - 91);
        e.says("Returns the length of the text");
        HiddenBids y = new HiddenBids();
        e.row("character #", n -> y.type('a' + n), 1, 2, 3);
        y.clearText();
        e.row("character # of an emptied text", n -> y.type('a' + n), 1, 2, 3);
        e.says("INVALID_ARGUMENT if character is out of range");
        e.each("type(#)", y::type, Due.INVALID, Edges.MIN, -1, 0, 10, 31, 127, 128, 256 + 'l', 65536 + 'l', Edges.MAX);
        e.due("the text is as it was", y.count(11), 3);
        e.says("LIMIT_REACHED if it has 60 characters");
        for (int length = 4; length <= 60; length++) e.due("character " + length, y.type(126), length);
        e.each("type(#), one too many", y::type, Due.FULL, 32, 'l', 126);
        e.each("type(#), one too many", y::type, Due.INVALID, 31, 127);
        e.due("the text is as it was", y.count(11), 60);
        y.clearText();
        e.due("room again", y.type(32), 1);
    }

    private void clearText() {
        e.section("Promise 22: clearText");
        e.says("Empties the text");
        HiddenBids x = typed("l1;x");
        e.due("fault", x.fault(0), 3);
        x.clearText();
        e.row("fault(#)", x::fault, Due.NONE, Due.NONE, Due.NONE);
        e.due("length", x.count(11), 0);
        e.due("commands", x.play(), 0);
        x.type('l');
        e.due("nothing of it comes back", x.fault(1), 1);
        e.says("Returns the length it had");
        HiddenBids y = new HiddenBids();
        e.due("none", y.clearText(), 0);
        for (int length : new int[] {1, 2, 59, 60}) {
            for (int n = 0; n < length; n++) y.type(';');
            e.due("the length", y.clearText(), length);
            e.due("none then", y.clearText(), 0);
        }
        for (int n = 0; n < 61; n++) y.type(';');
        e.due("never more than 60", y.clearText(), 60);
    }

    private void fault() {
        e.section("Promise 23: fault");
        e.says("Tells about the fault of the text");
        HiddenBids x = typed("l1;l21;");
        e.row("fault(#)", x::fault, 3, 2, Due.INVALID, Due.INVALID);
        e.due("no lot comes of it", x.count(1), 0);
        e.due("nor a change", x.count(10), 0);
        e.due("nor another text", x.count(11), 7);
        e.row("fault(#), once more", x::fault, 3, 2, Due.INVALID, Due.INVALID);
        e.says("`what`: 0: its position");
        e.due("of the first command", typed("l21;").fault(0), 0);
        e.due("of the third command", typed("l-1;l02;l21;").fault(0), 8);
        e.says("1: its reason");
        e.due("the form", typed("l1;l21").fault(1), 1);
        e.due("the call", typed("l1;l21;").fault(1), 2);
        e.says("2: its cause");
        e.due("of lot(21)", typed("l1;l21;").fault(2), Due.INVALID);
        e.due("of resolve", typed("l1;r;").fault(2), Due.IMPOSSIBLE);
        e.says("Returns that");
        e.row("fault(#) of l1;b0,21;", typed("l1;b0,21;")::fault, 3, 2, Due.IMPOSSIBLE, Due.INVALID);
        e.says("INVALID_ARGUMENT if what is out of range");
        for (String text : new String[] {"", "l1;", "x", "l21;"}) {
            HiddenBids y = typed(text);
            e.each("fault(#) of the text " + text, y::fault, Due.INVALID, Edges.MIN, -1, 3, 4, Edges.MAX);
        }
        e.says("NOT_FOUND if the text has no fault (also if it is empty)");
        e.row("fault(#) of no text", new HiddenBids()::fault, Due.NONE, Due.NONE, Due.NONE, Due.INVALID);
        e.row("fault(#) of l1;", typed("l1;")::fault, Due.NONE, Due.NONE, Due.NONE, Due.INVALID);
        e.row("fault(#) of a space", typed(" ")::fault, 0, 1, Due.NONE, Due.INVALID);
        HiddenBids mended = typed("l1;x");
        mended.fault(0);
        Due.write(mended, "l1;");
        e.row("fault(#) of a text that is mended", mended::fault, Due.NONE, Due.NONE, Due.NONE);
        e.says("for 2 if its reason is 1");
        e.due("fault(2) of a wrong form", typed("l1;l").fault(2), Due.NONE);
        e.due("fault(2) of a wrong call", typed("l1;l21;").fault(2), Due.INVALID);
        HiddenBids both = typed("l21;");
        both.fault(2);
        Due.write(both, "l21");
        e.due("fault(2) of a wrong form behind a wrong call", both.fault(2), Due.NONE);
    }

    private void play() {
        e.section("Promise 24: play");
        e.says("Does all commands of the text, which stays");
        HiddenBids x = typed("l7;l-2;b0,3;b1,02;r;b1,10;");
        e.due("play", x.play(), 6);
        e.row("count(#)", x::count, 2, 1, 0, 0, 0, 1, 0, 1, 40, 2, 1, 26);
        e.row("playerOf(0, #)", what -> x.playerOf(0, what), 17, 7, 0, 1, 3, 0);
        e.row("playerOf(1, #)", what -> x.playerOf(1, what), 23, 0, 1, 0, 0, 3);
        HiddenBids twice = typed("l3;");
        e.row("play(), time #", n -> twice.play(), 1, 1, 1);
        e.due("lots by three plays", twice.count(1), 3);
        e.due("the text stays", twice.count(11), 3);
        e.says("They are one change, also if there are none");
        HiddenBids none = new HiddenBids();
        none.play();
        e.due("states by no command", none.count(10), 1);
        e.due("undone", none.undo(), 0);
        HiddenBids many = typed("l1;".repeat(20));
        many.set(0, 0);
        many.play();
        e.due("states by 20 commands", many.count(10), 2);
        e.due("undone as one", many.undo(), 1);
        e.due("lots then", many.count(1), 0);
        e.due("the setting stays", many.count(20), 0);
        Due.write(many, "");
        for (int n = 0; n < 5; n++) many.play();
        e.due("states by 5 times no command", many.count(10), 4);
        for (int n = 0; n < 4; n++) many.undo();
        e.due("the setting's change was dropped", many.count(20), 0);
        e.says("Returns how many there are in it");
        e.due("none", new HiddenBids().play(), 0);
        right(1, "l1;");
        right(2, "l1;b0,20;");
        right(20, "l1;".repeat(20));
        e.due("not those that were done before", twice.play(), 1);
    }

    private void playNotPossible() {
        e.says("NOT_POSSIBLE if it has a fault");
        HiddenBids x = typed("l1;b0,5;b1,5;r;l21;");
        e.due("by the last command", x.play(), Due.IMPOSSIBLE);
        e.row("count(#): nothing is done", x::count, 2, 0, 0, 0, 0, 0, 0, 0, 40, 0, 0, 19);
        e.due("by the form of the last command", typed("l1;l1").play(), Due.IMPOSSIBLE);
        e.due("by the first command", typed("r;").play(), Due.IMPOSSIBLE);
        e.due("by a cause of its own, which play does not return", typed("l21;").play(), Due.IMPOSSIBLE);
        HiddenBids full = typed("l1;");
        for (int n = 1; n <= 19; n++) full.lot(n);
        e.due("the 20th lot", full.play(), 1);
        e.due("the 21st lot", full.play(), Due.IMPOSSIBLE);
        e.due("its cause", full.fault(2), Due.FULL);
        full.undo();
        e.due("the 20th lot again", full.play(), 1);
    }
}
