/** Promises 1 to 8: a new object, settings, places, nets. */
public final class PlacesTest {
    private static final int[] LEAST = {1, 0, 0, 1};
    private static final int[] MOST = {20, 50, 50, 20};
    private static final int[] FIRST = {3, 4, 6, 6};

    public static void main(String[] args) {
        newObject();
        set();
        block();
        net();
        netPrecedence();
        give();
        netOf();
        cellOf();
        wireAt();
        Check.finish();
    }

    private static void newObject() {
        WireDigs x = new WireDigs();
        for (int what = 0; what <= 11; what++) {
            Check.due("count(" + what + ")", x.count(what), what == 3 ? 162 : 0);
        }
        for (int what = 0; what < 4; what++) {
            Check.due("count(2" + what + ")", x.count(20 + what), FIRST[what]);
        }
        for (int cell = 0; cell < 162; cell++) {
            Check.due("cellOf(" + cell + ")", x.cellOf(cell), Scenes.MISSING);
        }
        Check.due("undo()", x.undo(), Scenes.IMPOSSIBLE);
        Check.due("wronged()", x.wronged(), 0);
        x.net(0, 1, -1, 0, 5);
        WireDigs other = new WireDigs();
        Check.due("nets of another object", other.count(0), 0);
        Check.due("free cells of another object", other.count(3), 162);
    }

    private static void set() {
        WireDigs x = new WireDigs();
        for (int what = 0; what < 4; what++) {
            Check.due("set to least", x.set(what, LEAST[what]), FIRST[what]);
            Check.due("set to most", x.set(what, MOST[what]), LEAST[what]);
            Check.due("set below", x.set(what, LEAST[what] - 1), Scenes.INVALID);
            Check.due("set above", x.set(what, MOST[what] + 1), Scenes.INVALID);
            Check.due("count after errors", x.count(20 + what), MOST[what]);
            Check.due("set to the same", x.set(what, MOST[what]), MOST[what]);
        }
        Check.due("set(-1, 1)", x.set(-1, 1), Scenes.INVALID);
        Check.due("set(4, 1)", x.set(4, 1), Scenes.INVALID);
        Check.due("set(least int)", x.set(Integer.MIN_VALUE, Integer.MIN_VALUE), Scenes.INVALID);
        Check.due("set(most int)", x.set(Integer.MAX_VALUE, Integer.MAX_VALUE), Scenes.INVALID);
        Check.due("history holds the sets", x.count(10), 4);
        Check.due("undo of a set to the same", x.undo(), 3);
        Check.due("undo of a set to most", x.undo(), 2);
        Check.due("patience then", x.count(23), 1);
    }

    private static void block() {
        WireDigs x = new WireDigs();
        Check.due("block(80, 1)", x.block(80, 1), 1);
        Check.due("block(0, 1)", x.block(0, 1), 2);
        Check.due("both cells", x.cellOf(80) + x.cellOf(161), 40);
        Check.due("free cells", x.count(3), 158);
        Check.due("block again", x.block(0, 1), Scenes.IMPOSSIBLE);
        Check.due("block(0, 0)", x.block(0, 0), 1);
        Check.due("free again", x.cellOf(81), Scenes.MISSING);
        Check.due("unblock again", x.block(0, 0), Scenes.IMPOSSIBLE);
        Check.due("block(-1, 1)", x.block(-1, 1), Scenes.INVALID);
        Check.due("block(81, 1)", x.block(81, 1), Scenes.INVALID);
        Check.due("block(0, -1)", x.block(0, -1), Scenes.INVALID);
        Check.due("block(0, 2)", x.block(0, 2), Scenes.INVALID);
        Check.due("block(80, 2)", x.block(80, 2), Scenes.INVALID);
        x.net(18, 20, -1, 0, 0);
        x.net(4, 76, -1, 0, 0);
        x.lay(0);
        x.lay(1);
        Check.due("block a pin", x.block(18, 1), Scenes.IMPOSSIBLE);
        Check.due("unblock a pin", x.block(18, 0), Scenes.IMPOSSIBLE);
        Check.due("block a wire on layer 0", x.block(19, 1), Scenes.IMPOSSIBLE);
        Check.due("block a wire on layer 1", x.block(13, 1), Scenes.IMPOSSIBLE);
        Check.due("blocked places", x.count(2), 1);
        Check.due("rip", x.rip(0), 1);
        Check.due("block what is free then", x.block(19, 1), 2);
    }

    private static void net() {
        WireDigs x = new WireDigs();
        Check.due("all arguments least", x.net(0, 80, -1, 0, 0), 0);
        Check.due("all arguments most", x.net(78, 79, 77, 9, 9999), 1);
        Check.due("pin cells on layer 0", x.cellOf(80), 10);
        Check.due("pin cells on layer 1", x.cellOf(161), 10);
        Check.due("pin 2 on layer 1", x.cellOf(77 + 81), 11);
        Check.due("not joined", x.netOf(0, 5), 0);
        Check.due("free cells", x.count(3), 152);
        Check.due("pin0 below", x.net(-1, 1, -1, 0, 0), Scenes.INVALID);
        Check.due("pin0 above", x.net(81, 1, -1, 0, 0), Scenes.INVALID);
        Check.due("pin1 below", x.net(1, -1, -1, 0, 0), Scenes.INVALID);
        Check.due("pin1 above", x.net(1, 81, -1, 0, 0), Scenes.INVALID);
        Check.due("pin2 below", x.net(1, 2, -2, 0, 0), Scenes.INVALID);
        Check.due("pin2 above", x.net(1, 2, 81, 0, 0), Scenes.INVALID);
        Check.due("stubbornness below", x.net(1, 2, -1, -1, 0), Scenes.INVALID);
        Check.due("stubbornness above", x.net(1, 2, -1, 10, 0), Scenes.INVALID);
        Check.due("purse below", x.net(1, 2, -1, 0, -1), Scenes.INVALID);
        Check.due("purse above", x.net(1, 2, -1, 0, 10000), Scenes.INVALID);
        Check.due("pin0 as pin1", x.net(1, 1, -1, 0, 0), Scenes.INVALID);
        Check.due("pin0 as pin2", x.net(1, 2, 1, 0, 0), Scenes.INVALID);
        Check.due("pin1 as pin2", x.net(1, 2, 2, 0, 0), Scenes.INVALID);
        x.block(9, 1);
        Check.due("pin0 blocked", x.net(9, 2, -1, 0, 0), Scenes.IMPOSSIBLE);
        Check.due("pin1 blocked", x.net(2, 9, -1, 0, 0), Scenes.IMPOSSIBLE);
        Check.due("pin2 blocked", x.net(2, 3, 9, 0, 0), Scenes.IMPOSSIBLE);
        Check.due("pin0 at a pin", x.net(80, 2, -1, 0, 0), Scenes.IMPOSSIBLE);
        Check.due("nets", x.count(0), 2);
    }

    private static void netPrecedence() {
        WireDigs x = new WireDigs();
        x.net(0, 2, -1, 0, 0);
        x.lay(0);
        Check.due("pin on a wire", x.net(1, 40, -1, 0, 0), Scenes.IMPOSSIBLE);
        Check.due("pin below a wire", x.net(40, 50, 1, 0, 0), Scenes.IMPOSSIBLE);
        for (int number = 1; number < 6; number++) {
            Check.due("net " + number, x.net(9 * number, 9 * number + 1, -1, 0, number), number);
        }
        Check.due("a seventh net", x.net(70, 71, 72, 9, 9999), Scenes.LIMIT);
        Check.due("not possible rather than limit", x.net(70, 1, -1, 0, 0), Scenes.IMPOSSIBLE);
        Check.due("invalid rather than not possible", x.net(0, 1, -1, 10, 0), Scenes.INVALID);
        Check.due("nets", x.count(0), 6);
        Check.due("coins", x.count(7), 15);
        x.rip(0);
        x.undo();
        x.undo();
        Check.due("a net after one was undone", x.net(70, 71, -1, 1, 7), 5);
        Check.due("its purse", x.netOf(5, 4), 7);
        Check.due("its pin", x.cellOf(70), 15);
        Check.due("the undone one's pin", x.cellOf(45), Scenes.MISSING);
    }

    private static void give() {
        WireDigs x = new WireDigs();
        x.net(0, 1, -1, 0, 9999);
        Check.due("give(0, 1)", x.give(0, 1), 10000);
        for (int i = 1; i <= 9; i++) {
            Check.due("give(0, 9999)", x.give(0, 9999), 10000 + 9999 * i);
        }
        Check.due("above the limit", x.give(0, 10), Scenes.LIMIT);
        Check.due("to the limit", x.give(0, 9), 100000);
        Check.due("one more", x.give(0, 1), Scenes.LIMIT);
        Check.due("no coins rather than the limit", x.give(0, 0), Scenes.INVALID);
        Check.due("too many coins rather than the limit", x.give(0, 10000), Scenes.INVALID);
        Check.due("negative coins", x.give(0, -5), Scenes.INVALID);
        Check.due("no such net", x.give(1, 5), Scenes.INVALID);
        Check.due("no such net", x.give(-1, 5), Scenes.INVALID);
        Check.due("purse", x.netOf(0, 4), 100000);
        Check.due("gifts are not what it was paid", x.netOf(0, 10), 0);
        Check.due("acts", x.count(6), 0);
    }

    private static void netOf() {
        WireDigs x = new WireDigs();
        x.net(4, 76, 40, 7, 123);
        x.net(0, 8, -1, 0, 0);
        int[] facts = {4, 76, 40, 7, 123, 0, 0, 0, 0, 0, 0};
        for (int what = 0; what < facts.length; what++) {
            Check.due("netOf(0, " + what + ")", x.netOf(0, what), facts[what]);
        }
        Check.due("no pin 2", x.netOf(1, 2), Scenes.MISSING);
        Check.due("what below", x.netOf(0, -1), Scenes.INVALID);
        Check.due("what above", x.netOf(0, 11), Scenes.INVALID);
        Check.due("net below", x.netOf(-1, 0), Scenes.INVALID);
        Check.due("net above", x.netOf(2, 2), Scenes.INVALID);
        Check.due("net far above", x.netOf(6, 0), Scenes.INVALID);
        Check.due("lay", x.lay(0), 8);
        Check.due("joined", x.netOf(0, 5), 1);
        Check.due("cells without those of the pins", x.netOf(0, 6), 6);
        Check.due("no vias", x.netOf(0, 7), 0);
        x.net(20, 60, -1, 0, 0);
        Check.due("lay with a via", x.lay(2), 11);
        Scenes.dueWire(x, 2, 56, 57, 58, 59, 101 + 9, 101 + 18, 101 + 27, 56 + 81);
        Check.due("one via", x.netOf(2, 7), 1);
    }

    private static void cellOf() {
        WireDigs x = new WireDigs();
        x.block(80, 1);
        x.net(0, 2, -1, 0, 0);
        x.net(9, 11, -1, 0, 0);
        x.lay(1);
        Check.due("a pin of net 0", x.cellOf(0), 10);
        Check.due("a pin of net 1 on layer 1", x.cellOf(81 + 11), 11);
        Check.due("a wire of net 1", x.cellOf(10), 1);
        Check.due("above the wire", x.cellOf(91), Scenes.MISSING);
        Check.due("free", x.cellOf(1), Scenes.MISSING);
        Check.due("blocked", x.cellOf(161), 20);
        Check.due("below", x.cellOf(-1), Scenes.INVALID);
        Check.due("above", x.cellOf(162), Scenes.INVALID);
        Check.due("least int", x.cellOf(Integer.MIN_VALUE), Scenes.INVALID);
    }

    private static void wireAt() {
        WireDigs x = new WireDigs();
        x.net(8, 0, -1, 0, 0);
        Check.due("not joined", x.wireAt(0, 0), Scenes.MISSING);
        x.lay(0);
        Scenes.dueWire(x, 0, 1, 2, 3, 4, 5, 6, 7);
        Check.due("index below", x.wireAt(0, -1), Scenes.INVALID);
        Check.due("index far above", x.wireAt(0, Integer.MAX_VALUE), Scenes.MISSING);
        Check.due("no such net", x.wireAt(1, 0), Scenes.INVALID);
        Check.due("no such net", x.wireAt(-1, 0), Scenes.INVALID);
    }
}
