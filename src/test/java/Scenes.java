/** Chips that several tests begin with, and short ways to look at them. */
final class Scenes {
    static final int INVALID = -1000001;
    static final int IMPOSSIBLE = -1000002;
    static final int LIMIT = -1000003;
    static final int MISSING = -1000004;

    private Scenes() {
    }

    /**
     * A wall in column 4 with a hole in row 4 (place 40), which only cell 40 leads through. Net 0
     * (pins 36 and 44) and net 1 (pins 27 and 35) both need the hole. Makes 10 changes, no acts.
     */
    static WireDigs gate(int stubbornness0, int purse0, int stubbornness1, int purse1) {
        WireDigs x = new WireDigs();
        wall(x, 4);
        x.net(36, 44, -1, stubbornness0, purse0);
        x.net(27, 35, -1, stubbornness1, purse1);
        return x;
    }

    /**
     * Walls in the columns 2 and 6 with holes in row 4. Net 0 (pins 28 and 30) needs the first
     * hole, net 1 (pins 32 and 34) the second one, net 2 (pins 36 and 44) both.
     */
    static WireDigs twoGates(int stubbornness0, int stubbornness1, int purse2) {
        WireDigs x = new WireDigs();
        wall(x, 2);
        wall(x, 6);
        x.net(28, 30, -1, stubbornness0, 0);
        x.net(32, 34, -1, stubbornness1, 0);
        x.net(36, 44, -1, 0, purse2);
        return x;
    }

    /** A chip of which only so many columns and rows, from place 0 on, can be reached. */
    static WireDigs corner(int columns, int rows) {
        WireDigs x = new WireDigs();
        for (int row = 0; row < rows; row++) {
            x.block(9 * row + columns, 1);
        }
        for (int column = 0; column < columns; column++) {
            x.block(9 * rows + column, 1);
        }
        return x;
    }

    /** A chip of which all other places are blocked. */
    static WireDigs only(int... places) {
        WireDigs x = new WireDigs();
        keepTo(x, places);
        return x;
    }

    /** Blocks all other places. */
    static void keepTo(WireDigs x, int... places) {
        boolean[] kept = new boolean[81];
        for (int place : places) {
            kept[place] = true;
        }
        for (int place = 0; place < 81; place++) {
            if (!kept[place]) {
                x.block(place, 1);
            }
        }
    }

    /** Two wires that are laid; net 0's has a via at place 0, net 1's at place 80. */
    static WireDigs cornerWires() {
        WireDigs x = new WireDigs();
        x.net(8, 72, -1, 0, 0);
        x.net(44, 76, -1, 0, 0);
        keepTo(x, 0, 1, 2, 3, 4, 5, 6, 7, 8, 9, 18, 27, 36, 45, 54, 63, 72, 44, 53, 62, 71, 80, 79, 78, 77, 76);
        x.lay(0);
        x.lay(1);
        return x;
    }

    /**
     * Net 0 was laid through both cells of place 0, and net 1 can only dig through the same six
     * cells; so it is with the nets 2 and 3 and place 80.
     */
    static WireDigs dugCorners() {
        WireDigs x = new WireDigs();
        for (int place : new int[] {10, 12, 20, 28, 70, 68, 60, 52}) {
            x.block(place, 1);
        }
        x.net(3, 27, -1, 0, 0);
        x.net(11, 19, -1, 0, 24);
        x.net(77, 53, -1, 0, 0);
        x.net(69, 61, -1, 0, 24);
        x.lay(0);
        x.lay(2);
        x.dig(1);
        x.dig(3);
        return x;
    }

    /** A small chip with nets of two pins each. */
    static WireDigs cornerNets(int columns, int rows, int... pins) {
        WireDigs x = corner(columns, rows);
        for (int i = 0; i < pins.length; i += 2) {
            x.net(pins[i], pins[i + 1], -1, 0, 0);
        }
        return x;
    }

    /** The gate after net 0 was laid: net 1, of stubbornness 1, would have to dig three cells. */
    static WireDigs laidGate(int stubbornness0, int purse0, int purse1) {
        WireDigs x = gate(stubbornness0, purse0, 1, purse1);
        x.lay(0);
        return x;
    }

    /**
     * The gate after net 0 was laid and net 1 has paid three cells of it, of 4 coins and the
     * stubbornness each. Claim 0 is for 7 cells, so its loss is 42.
     */
    static WireDigs dugGate(int stubbornness0, int purse0, int purse1) {
        WireDigs x = laidGate(stubbornness0, purse0, purse1);
        x.dig(1);
        return x;
    }

    /** Two nets dig each other up for nothing, so many times; an even claim is for 7 cells. */
    static WireDigs claims(int claims) {
        WireDigs x = gate(0, 0, 0, 0);
        x.set(1, 0);
        x.lay(0);
        for (int claim = 0; claim < claims; claim++) {
            Check.due("digging " + claim, x.dig(1 - claim % 2), 0);
        }
        return x;
    }

    /** Nets whose pins are side by side in the columns 0 and 1, so that all can be laid. */
    static WireDigs easyNets(int nets) {
        WireDigs x = new WireDigs();
        for (int net = 0; net < nets; net++) {
            Check.due("net " + net, x.net(9 * net, 9 * net + 1, -1, 0, 0), net);
        }
        return x;
    }

    /** As the gate after net 0 was laid, but with net 5 for net 0, and net 4 for net 1. */
    static WireDigs laidGateOfLastNets() {
        WireDigs x = new WireDigs();
        wall(x, 4);
        for (int pin : new int[] {0, 2, 9, 11}) {
            x.net(pin, pin + 1, -1, 0, 0);
        }
        x.net(27, 35, -1, 0, 99);
        x.net(36, 44, -1, 0, 0);
        x.lay(5);
        return x;
    }

    static void wall(WireDigs x, int column) {
        for (int row = 0; row < 9; row++) {
            if (row != 4) {
                x.block(9 * row + column, 1);
            }
        }
    }

    static void typeAll(WireDigs x, String text) {
        for (int i = 0; i < text.length(); i++) {
            x.type(text.charAt(i));
        }
    }

    static void retype(WireDigs x, String text) {
        x.clearText();
        typeAll(x, text);
    }

    static void dueRoute(WireDigs x, int net, int digs, int... cells) {
        for (int i = 0; i < cells.length; i++) {
            Check.due("routeAt(" + net + ", " + digs + ", " + i + ")", x.routeAt(net, digs, i), cells[i]);
        }
        Check.due("routeAt(" + net + ", " + digs + ", end)", x.routeAt(net, digs, cells.length), MISSING);
    }

    static void dueWire(WireDigs x, int net, int... cells) {
        for (int i = 0; i < cells.length; i++) {
            Check.due("wireAt(" + net + ", " + i + ")", x.wireAt(net, i), cells[i]);
            Check.due("cellOf(" + cells[i] + ")", x.cellOf(cells[i]), net);
        }
        Check.due("wireAt(" + net + ", end)", x.wireAt(net, cells.length), MISSING);
        Check.due("netOf(" + net + ", 6)", x.netOf(net, 6), cells.length);
    }

    static void dueClaim(WireDigs x, int claim, int... facts) {
        for (int what = 0; what < facts.length; what++) {
            Check.due("claimOf(" + claim + ", " + what + ")", x.claimOf(claim, what), facts[what]);
        }
    }

    /** Purse, joined or not, times dug up, paid, received. */
    static void dueNet(WireDigs x, int net, int purse, int joined, int dug, int paid, int received) {
        Check.due("netOf(" + net + ", 4)", x.netOf(net, 4), purse);
        Check.due("netOf(" + net + ", 5)", x.netOf(net, 5), joined);
        Check.due("netOf(" + net + ", 8)", x.netOf(net, 8), dug);
        Check.due("netOf(" + net + ", 9)", x.netOf(net, 9), paid);
        Check.due("netOf(" + net + ", 10)", x.netOf(net, 10), received);
    }
}
