/** Chips that several tests begin with, and short ways to look at them. */
final class Scenes {
    static final int INVALID = -1000001;
    static final int IMPOSSIBLE = -1000002;
    static final int LIMIT = -1000003;
    static final int MISSING = -1000004;

    private Scenes() {
    }

    /**
     * A wall in column 4 with a hole in row 4 (place 40), which only cell 40 leads through. Net 0
     * (pins 36 and 44) and net 1 (pins 27 and 35) both need the hole. Makes 10 changes, no acts.
     */
    static WireDigs gate(int stubbornness0, int purse0, int stubbornness1, int purse1) {
        WireDigs x = new WireDigs();
        wall(x, 4);
        x.net(36, 44, -1, stubbornness0, purse0);
        x.net(27, 35, -1, stubbornness1, purse1);
        return x;
    }

    /**
     * Walls in the columns 2 and 6 with holes in row 4. Net 0 (pins 28 and 30) needs the first
     * hole, net 1 (pins 32 and 34) the second one, net 2 (pins 36 and 44) both.
     */
    static WireDigs twoGates(int stubbornness0, int stubbornness1, int purse2) {
        WireDigs x = new WireDigs();
        wall(x, 2);
        wall(x, 6);
        x.net(28, 30, -1, stubbornness0, 0);
        x.net(32, 34, -1, stubbornness1, 0);
        x.net(36, 44, -1, 0, purse2);
        return x;
    }

    /** A chip of which only so many columns and rows, from place 0 on, can be reached. */
    static WireDigs corner(int columns, int rows) {
        WireDigs x = new WireDigs();
        for (int row = 0; row < rows; row++) {
            x.block(9 * row + columns, 1);
        }
        for (int column = 0; column < columns; column++) {
            x.block(9 * rows + column, 1);
        }
        return x;
    }

    static void wall(WireDigs x, int column) {
        for (int row = 0; row < 9; row++) {
            if (row != 4) {
                x.block(9 * row + column, 1);
            }
        }
    }

    static void typeAll(WireDigs x, String text) {
        for (int i = 0; i < text.length(); i++) {
            x.type(text.charAt(i));
        }
    }

    static void retype(WireDigs x, String text) {
        x.clearText();
        typeAll(x, text);
    }

    static void dueRoute(WireDigs x, int net, int digs, int... cells) {
        for (int i = 0; i < cells.length; i++) {
            Check.due("routeAt(" + net + ", " + digs + ", " + i + ")", x.routeAt(net, digs, i), cells[i]);
        }
        Check.due("routeAt(" + net + ", " + digs + ", end)", x.routeAt(net, digs, cells.length), MISSING);
    }

    static void dueWire(WireDigs x, int net, int... cells) {
        for (int i = 0; i < cells.length; i++) {
            Check.due("wireAt(" + net + ", " + i + ")", x.wireAt(net, i), cells[i]);
            Check.due("cellOf(" + cells[i] + ")", x.cellOf(cells[i]), net);
        }
        Check.due("wireAt(" + net + ", end)", x.wireAt(net, cells.length), MISSING);
        Check.due("netOf(" + net + ", 6)", x.netOf(net, 6), cells.length);
    }

    static void dueClaim(WireDigs x, int claim, int... facts) {
        for (int what = 0; what < facts.length; what++) {
            Check.due("claimOf(" + claim + ", " + what + ")", x.claimOf(claim, what), facts[what]);
        }
    }

    /** Purse, joined or not, times dug up, paid, received. */
    static void dueNet(WireDigs x, int net, int purse, int joined, int dug, int paid, int received) {
        Check.due("netOf(" + net + ", 4)", x.netOf(net, 4), purse);
        Check.due("netOf(" + net + ", 5)", x.netOf(net, 5), joined);
        Check.due("netOf(" + net + ", 8)", x.netOf(net, 8), dug);
        Check.due("netOf(" + net + ", 9)", x.netOf(net, 9), paid);
        Check.due("netOf(" + net + ", 10)", x.netOf(net, 10), received);
    }
}
