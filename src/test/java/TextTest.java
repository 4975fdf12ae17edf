/** Promises 21 to 24: type, clearText, fault, play. */
public final class TextTest {
    private static final Due D = new Due("TextTest");

    public static void main(String[] args) {
        type();
        clearText();
        forms();
        calls();
        faultComesInOrder();
        faultArguments();
        play();
        playIsOneChange();
        playRefused();
        D.end();
    }

    private static void type() {
        HiddenBids x = new HiddenBids();
        D.due("21: least", x.type(32), 1);
        D.due("21: greatest", x.type(126), 2);
        D.due("21: too little", x.type(31), Due.INVALID);
        D.due("21: too much", x.type(127), Due.INVALID);
        D.due("21: extreme", x.type(Integer.MIN_VALUE), Due.INVALID);
        for (int length = 3; length <= 60; length++) D.due("21: length", x.type('r'), length);
        D.due("21: full", x.type('r'), Due.FULL);
        D.due("21: invalid first", x.type(127), Due.INVALID);
        D.due("21: 60", x.count(11), 60);
        D.due("21: no change", x.count(10), 0);
    }

    private static void clearText() {
        HiddenBids x = new HiddenBids();
        D.due("22: empty", x.clearText(), 0);
        Due.write(x, "l5;x");
        D.due("22: the length it had", x.clearText(), 4);
        D.due("22: empty again", x.count(11), 0);
        D.due("22: no fault left", x.fault(0), Due.NONE);
        D.due("22: begins anew", x.type('l'), 1);
        x.type('5');
        D.due("22: what was there is gone", x.fault(1), 1);
        D.due("22: no change", x.undo(), Due.IMPOSSIBLE);
    }

    private static void forms() {
        String[] right = {"", "l5;", "l05;", "l20;", "l-9;", "l-09;", "l-0;", "l00;", "l1;l2;", "l1;b0,5;", "l1;b01,05;",
            "l1;b00,20;", "l1;b0,0;b1,1;r;"};
        for (String text : right) fault(text, -1, 0, 0);
        String[] wrong = {"l", "l5", "l;", "l-", "l-;", "l--5;", "l+5;", "l005;", "l 5;", "L5;", " l5;", "l5,", "l5,5;",
            "l-005;", "l5:", "l5/;", "b", "b0", "b0,", "b0,5", "b;", "b0;", "b,5;", "b0,;", "b000,5;", "b0,005;",
            "b0,-5;", "b-0,5;", "b0,5,;", "b0;5;", "b0, 5;", "r", "r ;", "r0;", "rr;", "R;", ";", "x", "x;", "5;",
            "-l5;", "~", " "};
        for (String text : wrong) {
            fault(text, 0, 1, 0);
            fault("l4;" + text, 3, 1, 0);
        }
        fault("l4;;", 3, 1, 0);
        fault("l4; l5;", 3, 1, 0);
        fault("l4;l5;l", 6, 1, 0);
    }

    private static void calls() {
        fault("l21;", 0, 2, Due.INVALID);
        fault("l-10;", 0, 2, Due.INVALID);
        fault("l99;", 0, 2, Due.INVALID);
        fault("b0,5;", 0, 2, Due.IMPOSSIBLE);
        fault("b2,5;", 0, 2, Due.INVALID);
        fault("r;", 0, 2, Due.IMPOSSIBLE);
        fault("l1;b0,21;", 3, 2, Due.IMPOSSIBLE);
        fault("l1;b99,21;", 3, 2, Due.INVALID);
        fault("l1;b0,1;r;", 8, 2, Due.IMPOSSIBLE);
        fault("l1;b0,1;b1,2;r;r;", 15, 2, Due.IMPOSSIBLE);
        fault("l1;l1;b0,20;b1,2;r;b0,1;", 19, 2, Due.IMPOSSIBLE);
        fault("l1;l1;l1;l1;l1;l1;l1;l1;l1;l1;l1;l1;l1;l1;l1;l1;l1;l1;l1;l1;", -1, 0, 0);
        HiddenBids x = new HiddenBids();
        for (int n = 0; n < 19; n++) x.lot(1);
        Due.write(x, "l1;l2;");
        D.due("23: a full row: where", x.fault(0), 3);
        D.due("23: a full row: cause", x.fault(2), Due.FULL);
    }

    private static void faultComesInOrder() {
        fault("l21;x", 0, 2, Due.INVALID);
        fault("x;l21;", 0, 1, 0);
        fault("l1;r;x", 3, 2, Due.IMPOSSIBLE);
        HiddenBids x = new HiddenBids();
        Due.write(x, "b0,3;");
        D.due("23: not possible now", x.fault(1), 2);
        x.lot(5);
        D.due("23: possible now", x.fault(1), Due.NONE);
        x.undo();
        D.due("23: not possible again", x.fault(2), Due.IMPOSSIBLE);
        D.due("23: nothing is done", x.count(7), 0);
    }

    private static void faultArguments() {
        HiddenBids x = new HiddenBids();
        for (int what = 0; what <= 2; what++) D.due("23: no text", x.fault(what), Due.NONE);
        D.due("23: what -1", x.fault(-1), Due.INVALID);
        D.due("23: what 3", x.fault(3), Due.INVALID);
        x.type('x');
        D.due("23: what 3 with a fault", x.fault(3), Due.INVALID);
        D.due("23: extreme", x.fault(Integer.MAX_VALUE), Due.INVALID);
    }

    private static void play() {
        HiddenBids x = new HiddenBids();
        Due.write(x, "l7;l-2;b0,3;b1,02;r;b1,10;");
        D.due("24: commands", x.play(), 6);
        D.due("24: points", x.playerOf(0, 1), 7);
        D.due("24: coins", x.playerOf(1, 0), 23);
        D.due("24: row", x.lotOf(0, 0), -2);
        D.due("24: bid", x.playerOf(1, 2), 1);
        D.due("24: the text stays", x.count(11), 26);
        x.bid(0, 0);
        D.due("24: the bid is 10", x.resolve(), 1);
        D.due("24: 10", x.roundOf(0, 1), 10);
        HiddenBids y = new HiddenBids();
        Due.write(y, "l3;");
        D.due("24: once", y.play(), 1);
        D.due("24: twice", y.play(), 1);
        D.due("24: two lots", y.count(1), 2);
    }

    private static void playIsOneChange() {
        HiddenBids x = new HiddenBids();
        D.due("24: no commands", x.play(), 0);
        D.due("24: a change too", x.count(10), 1);
        Due.write(x, "l1;l2;l3;b0,1;b1,1;r;");
        D.due("24: six", x.play(), 6);
        D.due("24: one change", x.count(10), 2);
        D.due("24: undone as one", x.undo(), 1);
        D.due("24: no lot", x.count(1), 0);
        D.due("24: the text stays", x.count(11), 21);
    }

    private static void playRefused() {
        HiddenBids x = new HiddenBids();
        String[] texts = {"l1;l2;l21;", "l1;b0,4", "l1;b0,1;r;", "x"};
        for (String text : texts) {
            Due.write(x, text);
            D.due("24: " + text, x.play(), Due.IMPOSSIBLE);
            D.due("24: nothing is done", x.count(1), 0);
            D.due("24: no bid", x.count(7), 0);
            D.due("24: no state", x.count(10), 0);
            D.due("24: the text stays", x.count(11), text.length());
        }
    }

    /** A text on a new object; position -1: it has no fault. */
    private static void fault(String text, int position, int reason, int cause) {
        HiddenBids x = new HiddenBids();
        Due.write(x, text);
        D.due("23: position in " + text, x.fault(0), position < 0 ? Due.NONE : position);
        D.due("23: reason in " + text, x.fault(1), position < 0 ? Due.NONE : reason);
        D.due("23: cause in " + text, x.fault(2), reason == 2 ? cause : Due.NONE);
        D.due("23: fault does nothing", x.count(1) + x.count(7) + x.count(10), 0);
        boolean played = x.play() != Due.IMPOSSIBLE;
        D.due("24: played " + text, played ? 1 : 0, position < 0 ? 1 : 0);
    }
}
