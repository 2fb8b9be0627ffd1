/** Promises 25 to 28, type, clearText, fault and play, and the term "Texts". */
public final class TextsTest {
    private static final String FULL = "w50;w50;w50;w50;w50;w50;w50;w50;w50;w50;w50;w50;w50;w50;w50;";

    public static void main(String[] args) {
        type();
        clearText();
        fault();
        form();
        places();
        reasonTwo();
        reasonThree();
        faultAfterThoseAhead();
        faultChangesNothing();
        play();
        playIsOneChange();
        playAll();
        Check.finish();
    }

    private static void type() {
        WireDigs x = new WireDigs();
        Check.due("type(31)", x.type(31), Scenes.INVALID);
        Check.due("type(127)", x.type(127), Scenes.INVALID);
        Check.due("type(-1)", x.type(-1), Scenes.INVALID);
        Check.due("type(32)", x.type(32), 1);
        Check.due("type(126)", x.type(126), 2);
        for (int length = 3; length <= 60; length++) {
            Check.due("type(59)", x.type(59), length);
        }
        Check.due("a 61st character", x.type(59), Scenes.LIMIT);
        Check.due("invalid rather than limit", x.type(31), Scenes.INVALID);
        Check.due("length", x.count(11), 60);
        Check.due("no state", x.count(10), 0);
    }

    private static void clearText() {
        WireDigs x = new WireDigs();
        Check.due("empty", x.clearText(), 0);
        Scenes.typeAll(x, FULL);
        Check.due("full", x.clearText(), 60);
        Check.due("length", x.count(11), 0);
        Check.due("type", x.type('w'), 1);
        Check.due("the former characters are gone", x.fault(1), 1);
        Check.due("clear", x.clearText(), 1);
    }

    private static void fault() {
        WireDigs x = new WireDigs();
        Check.due("empty text", x.fault(0), Scenes.MISSING);
        Check.due("empty text", x.fault(1), Scenes.MISSING);
        Check.due("what below", x.fault(-1), Scenes.INVALID);
        Check.due("what above", x.fault(2), Scenes.INVALID);
        Scenes.typeAll(x, "w7;");
        Check.due("no fault", x.fault(0), Scenes.MISSING);
        Check.due("no fault", x.fault(1), Scenes.MISSING);
        Check.due("what rather than no fault", x.fault(2), Scenes.INVALID);
    }

    private static void dueFault(WireDigs x, String text, int position, int reason) {
        Scenes.retype(x, text);
        Check.due("fault(0) of " + text, x.fault(0), position);
        Check.due("fault(1) of " + text, x.fault(1), reason);
        Check.due("play() of " + text, x.play(), Scenes.IMPOSSIBLE);
    }

    private static void dueNoFault(WireDigs x, String text, int orders) {
        Scenes.retype(x, text);
        Check.due("fault(0) of " + text, x.fault(0), Scenes.MISSING);
        Check.due("fault(1) of " + text, x.fault(1), Scenes.MISSING);
        Check.due("play() of " + text, x.play(), orders);
        x.undo();
    }

    private static void form() {
        String[] wrong = {
            "l0", "l", "l;", ";", "l0 ;", " l0;", "l000;", "L0;", "x0;", "0;", "l-1;", "h0;", "h", "hh;",
            "w;", "w1", "w123;", "w1.", "a;", "r;", "d;", "lx;", "l0x;", "h ;", "w 1;", "~"
        };
        for (String text : wrong) {
            dueFault(oneNet(), text, 0, 1);
            dueFault(oneNet(), "w1;l0;" + text, 6, 1);
        }
        WireDigs x = oneNet();
        dueFault(x, "l0;;", 3, 1);
        dueFault(x, "l0; w1;", 3, 1);
        dueFault(x, "w1;w50;w", 7, 1);
        // The form is looked at first: there is no such net, and no such act either.
        dueFault(x, "l9", 0, 1);
        dueFault(x, "w99", 0, 1);
        dueNoFault(x, "l0;", 1);
        dueNoFault(x, "l00;", 1);
        dueNoFault(x, "w01;w1;w50;", 3);
    }

    private static WireDigs oneNet() {
        WireDigs x = new WireDigs();
        x.net(0, 8, -1, 0, 0);
        return x;
    }

    private static void places() {
        WireDigs x = new WireDigs();
        x.net(0, 8, -1, 0, 0);
        // The first order that is not possible counts, not the first one that is not of the form.
        dueFault(x, "l1;zz", 0, 2);
        dueFault(x, "l0;l0;l1;", 3, 3);
        dueFault(x, "l0;r0;h;w99;", 6, 3);
        dueFault(x, "w50;w50;w50;w50;w50;w50;w50;w50;w50;w50;w50;w50;w50;w50;w500", 56, 1);
        dueNoFault(x, FULL, 15);
        dueNoFault(x, "l0;r0;l0;r0;l0;r0;l0;r0;l0;r0;l0;r0;l0;r0;l0;r0;l0;r0;l0;r0;", 20);
    }

    private static void reasonTwo() {
        WireDigs x = Scenes.gate(2, 100, 1, 20);
        for (String letter : new String[] {"l", "d", "r"}) {
            dueFault(x, letter + "2;", 0, 2);
            dueFault(x, letter + "06;", 0, 2);
            dueFault(x, letter + "99;", 0, 2);
        }
        dueFault(x, "a0;", 0, 2);
        dueFault(x, "a12;", 0, 2);
        dueFault(x, "l0;a0;", 3, 2);
        dueFault(x, "l0;d1;a1;", 6, 2);
        dueNoFault(x, "l0;d1;a0;", 3);
        dueNoFault(x, "l0;d1;a00;h;", 4);
    }

    private static void reasonThree() {
        WireDigs x = Scenes.gate(2, 100, 1, 17);
        dueFault(x, "r0;", 0, 3);
        dueFault(x, "l0;l0;", 3, 3);
        dueFault(x, "l0;l1;", 3, 3);
        dueFault(x, "l0;d0;", 3, 3);
        dueFault(x, "l0;d1;", 3, 3);
        dueFault(x, "h;", 0, 3);
        dueFault(x, "w0;", 0, 3);
        dueFault(x, "w00;", 0, 3);
        dueFault(x, "w51;", 0, 3);
        dueFault(x, "w99;", 0, 3);
        x.give(1, 1);
        dueFault(x, "l0;d1;w7;a0;", 9, 3);
        dueFault(x, "l0;d1;a0;a0;", 9, 3);
        dueFault(x, "l0;d1;a0;h;h;", 11, 3);
        dueNoFault(x, "l0;d1;w6;a0;h;", 5);
        WireDigs y = Scenes.gate(0, 0, 0, 0);
        y.set(1, 0);
        dueFault(y, "l0;d1;d0;d1;d0;d1;d0;d1;d0;d1;d0;d1;d0;d1;", 39, 3);
        dueNoFault(y, "l0;d1;d0;d1;d0;d1;d0;d1;d0;d1;d0;d1;d0;r0;d1;", 15);
    }

    private static void faultAfterThoseAhead() {
        WireDigs x = Scenes.gate(9, 100, 1, 0);
        dueFault(x, "l0;l1;", 3, 3);
        dueNoFault(x, "l0;r0;l1;", 3);
        dueFault(x, "d1;d0;r1;", 6, 3);
        // Net 0 pays 25 for 5 cells, net 1 has to pay 39 for 3.
        dueFault(x, "l1;d0;d1;", 6, 3);
        x.give(1, 13);
        dueFault(x, "l1;d0;d1;", 6, 3);
        x.give(1, 1);
        dueNoFault(x, "l1;d0;d1;", 3);
    }

    private static void faultChangesNothing() {
        WireDigs x = Scenes.gate(2, 100, 1, 20);
        Scenes.typeAll(x, "l0;d1;a0;h;h;");
        int states = x.count(10);
        Check.due("fault", x.fault(0), 11);
        Check.due("play", x.play(), Scenes.IMPOSSIBLE);
        Check.due("acts", x.count(6), 0);
        Check.due("joined", x.count(1), 0);
        Check.due("claims", x.count(4), 0);
        Check.due("states", x.count(10), states);
        Check.due("coins of net 1", x.netOf(1, 4), 20);
        Check.due("the text stays", x.count(11), 13);
    }

    private static void play() {
        WireDigs x = Scenes.gate(2, 100, 1, 41);
        Scenes.typeAll(x, "l0;d1;a0;h;");
        Check.due("play", x.play(), 4);
        Check.due("acts", x.count(6), 4);
        Scenes.dueNet(x, 0, 141, 1, 1, 0, 41);
        Scenes.dueNet(x, 1, 0, 0, 0, 41, 0);
        Scenes.dueClaim(x, 0, 0, 1, 7, 0, 41, 42, 2, 2);
        Check.due("the text stays", x.count(11), 11);
        Check.due("it has a fault now", x.fault(0), 0);
        Check.due("play again", x.play(), Scenes.IMPOSSIBLE);
    }

    private static void playIsOneChange() {
        WireDigs x = new WireDigs();
        Check.due("no orders", x.play(), 0);
        Check.due("one change all the same", x.count(10), 1);
        Check.due("no act", x.count(6), 0);
        Scenes.typeAll(x, "w1;w2;w3;w4;w5;");
        Check.due("play", x.play(), 5);
        Check.due("one state more", x.count(10), 2);
        Check.due("acts", x.count(6), 15);
        Check.due("undo", x.undo(), 1);
        Check.due("all is undone", x.count(6), 0);
        x.undo();
        Check.due("play again", x.play(), 5);
        Check.due("and again", x.play(), 5);
        Check.due("acts", x.count(6), 30);
    }

    private static void playAll() {
        WireDigs x = Scenes.gate(2, 100, 1, 20);
        Scenes.typeAll(x, "l0;d1;r1;w09;l1;r1;d0;");
        Check.due("play", x.play(), 7);
        Check.due("acts", x.count(6), 15);
        Check.due("joined", x.netOf(0, 5), 1);
        Check.due("not joined", x.netOf(1, 5), 0);
        Check.due("claims", x.count(4), 1);
        Check.due("acts gone by", x.claimOf(0, 7), 13);
    }
}
