import java.util.function.Supplier;

/** Sentences of the terms Cells, Nets and Settings, and of the promises 1 to 8. */
final class PlaceEdges {
    private static final int INVALID = Scenes.INVALID;
    private static final int IMPOSSIBLE = Scenes.IMPOSSIBLE;
    private static final int LIMIT = Scenes.LIMIT;
    private static final int MISSING = Scenes.MISSING;

    private PlaceEdges() {
    }

    static void all(Edges e) {
        cells(e);
        nets(e);
        settings(e);
        newObject(e);
        set(e);
        block(e);
        net(e);
        give(e);
        netOf(e);
        cellOf(e);
        wireAt(e);
    }

    private static void cells(Edges e) {
        e.section("Cells");
        e.holds("There are two layers, 0 and 1, each with 9 rows of 9 places", () -> {
            Check.due("free cells", new WireDigs().count(3), 162);
            Refusals.range(WireDigs::new, "cellOf", (x, cell) -> x.cellOf(cell), 0, 161);
            Refusals.range(WireDigs::new, "block", (x, place) -> x.block(place, 1), 0, 80);
        });
        e.holds("the cell of a layer, a row and a column has the number 81 * layer + 9 * row + column", () -> {
            WireDigs x = new WireDigs();
            for (int corner : new int[] {0, 8, 72, 80}) {
                x.block(corner, 1);
            }
            for (int layer = 0; layer < 2; layer++) {
                for (int row = 0; row < 9; row++) {
                    for (int column = 0; column < 9; column++) {
                        boolean corner = (row == 0 || row == 8) && (column == 0 || column == 8);
                        int cell = 81 * layer + 9 * row + column;
                        Check.due("cellOf(" + cell + ")", x.cellOf(cell), corner ? 20 : MISSING);
                    }
                }
            }
        });
        e.holds("On layer 0 a step leads from a cell to the one before or behind it in its row", () -> {
            WireDigs x = new WireDigs();
            x.net(72, 80, -1, 0, 0);
            x.net(8, 0, -1, 0, 0);
            Scenes.dueRoute(x, 0, 0, 80, 79, 78, 77, 76, 75, 74, 73, 72);
            Scenes.dueRoute(x, 1, 0, 0, 1, 2, 3, 4, 5, 6, 7, 8);
        });
        e.holds("on layer 1 to the one above or below it in its column", () -> {
            WireDigs x = new WireDigs();
            x.net(0, 72, -1, 0, 0);
            x.net(80, 8, -1, 0, 0);
            Scenes.dueRoute(x, 0, 0, 153, 144, 135, 126, 117, 108, 99, 90, 81);
            Scenes.dueRoute(x, 1, 0, 89, 98, 107, 116, 125, 134, 143, 152, 161);
        });
        e.holds("(rows and columns that differ by 1)", PlaceEdges::stepsBetweenAllPlaces);
        e.holds("a via leads from a cell to the one of the other layer at the same place", () -> {
            Scenes.dueRoute(netOfTwo(Scenes.only(0, 9, 10), 0, 10), 0, 0, 10, 9, 90, 81);
            Scenes.dueRoute(netOfTwo(Scenes.only(0, 9, 10), 10, 0), 0, 0, 81, 90, 9, 10);
            Scenes.dueRoute(netOfTwo(Scenes.only(80, 79, 70), 70, 80), 0, 0, 80, 79, 160, 151);
        });
        e.holds("Places can be blocked; then both their cells are.", () -> {
            for (int place : new int[] {0, 40, 80}) {
                WireDigs x = new WireDigs();
                x.block(place, 1);
                Check.due("its cell on layer 0", x.cellOf(place), 20);
                Check.due("its cell on layer 1", x.cellOf(81 + place), 20);
                Check.due("free cells", x.count(3), 160);
                x.block(place, 0);
                Check.due("layer 0 again", x.cellOf(place), MISSING);
                Check.due("layer 1 again", x.cellOf(81 + place), MISSING);
            }
        });
    }

    /** Without a third place two pins have a route only if one step leads from one to the other. */
    private static void stepsBetweenAllPlaces() {
        for (int pin0 = 0; pin0 < 81; pin0++) {
            for (int pin1 = 0; pin1 < 81; pin1++) {
                int apart = Math.abs(pin0 / 9 - pin1 / 9) + Math.abs(pin0 % 9 - pin1 % 9);
                if (pin0 != pin1) {
                    WireDigs x = netOfTwo(Scenes.only(pin0, pin1), pin0, pin1);
                    Check.due("from " + pin1 + " to " + pin0, x.cost(0, 0), apart == 1 ? 1 : MISSING);
                }
            }
        }
    }

    private static WireDigs netOfTwo(WireDigs x, int pin0, int pin1) {
        x.net(pin0, pin1, -1, 0, 0);
        return x;
    }

    /** As many nets as can be. */
    private static WireDigs sixNets() {
        return Scenes.easyNets(6);
    }

    /** Place 40 is blocked, 0, 8 and 4 have pins; cell 1 on layer 0 and cell 9 on layer 1 are of wires. */
    private static WireDigs taken() {
        WireDigs x = new WireDigs();
        x.block(40, 1);
        x.net(0, 8, 4, 0, 0);
        x.net(10, 28, -1, 0, 0);
        x.lay(0);
        x.lay(1);
        Check.due("a wire on layer 0", x.cellOf(1), 0);
        Check.due("free above it", x.cellOf(82), MISSING);
        Check.due("a wire on layer 1", x.cellOf(81 + 19), 1);
        Check.due("free below it", x.cellOf(19), MISSING);
        return x;
    }

    private static void nets(Edges e) {
        e.section("Nets");
        e.holds("There are at most 6 nets, numbered from 0.", () -> {
            WireDigs x = sixNets();
            Check.due("nets", x.count(0), 6);
            Check.due("the first one", x.netOf(0, 1), 1);
            Check.due("the last one", x.netOf(5, 1), 46);
            Check.due("none behind it", x.netOf(6, 1), INVALID);
            Refusals.due(PlaceEdges::sixNets, "a seventh net", c -> c.net(60, 61, -1, 0, 0), LIMIT);
        });
        e.holds("A net has two or three pins", () -> {
            WireDigs x = new WireDigs();
            x.net(0, 1, -1, 0, 0);
            x.net(2, 3, 4, 0, 0);
            Check.due("no pin 2", x.netOf(0, 2), MISSING);
            Check.due("pin 2", x.netOf(1, 2), 4);
            Check.due("free cells", x.count(3), 152);
            Refusals.due(WireDigs::new, "one pin", c -> c.net(0, -1, -1, 0, 0), INVALID);
            Refusals.due(WireDigs::new, "no pin 0", c -> c.net(-1, 0, 1, 0, 0), INVALID);
            Refusals.due(WireDigs::new, "no pin 1", c -> c.net(0, -1, 1, 0, 0), INVALID);
        });
        e.holds("at unlike places", () -> {
            Refusals.due(WireDigs::new, "pins 0 and 1", c -> c.net(7, 7, -1, 0, 0), INVALID);
            Refusals.due(WireDigs::new, "pins 0 and 2", c -> c.net(7, 8, 7, 0, 0), INVALID);
            Refusals.due(WireDigs::new, "pins 1 and 2", c -> c.net(8, 7, 7, 0, 0), INVALID);
            Check.due("side by side", new WireDigs().net(7, 8, 6, 0, 0), 0);
        });
        e.holds("that are not blocked", () -> dueRefusedPins(40));
        e.holds("and have no pin of any net", () -> {
            dueRefusedPins(0);
            dueRefusedPins(8);
            dueRefusedPins(4);
        });
        e.holds("both cells of the place of a pin belong to the net for good, as pin cells", () -> {
            WireDigs x = Scenes.gate(0, 0, 0, 50);
            x.lay(0);
            x.dig(1);
            x.rip(1);
            Check.due("pin 0 on layer 0", x.cellOf(36), 10);
            Check.due("pin 1 on layer 1", x.cellOf(81 + 44), 10);
            Check.due("pin 0 of net 1 on layer 1", x.cellOf(81 + 27), 11);
            Check.due("pin 1 of net 1 on layer 0", x.cellOf(35), 11);
            WireDigs y = Scenes.only(0, 1, 2, 3);
            y.net(1, 2, -1, 0, 0);
            y.net(0, 3, -1, 0, 9999);
            Check.due("they are not dug up", y.cost(1, 1), MISSING);
        });
        e.holds("It has a stubbornness (0 to 9)", () ->
            Refusals.range(WireDigs::new, "stubbornness", (x, value) -> x.net(0, 1, -1, value, 0), 0, 9));
        e.holds("and a purse (0 to 9999 coins at first).", () -> {
            Refusals.range(WireDigs::new, "purse", (x, value) -> x.net(0, 1, -1, 0, value), 0, 9999);
            WireDigs x = new WireDigs();
            x.net(0, 1, -1, 0, 9999);
            Check.due("later it can be more", x.give(0, 1), 10000);
        });
        e.holds("A net is joined, or it is not", () -> {
            WireDigs x = new WireDigs();
            x.net(0, 2, -1, 0, 0);
            Check.due("at first", x.netOf(0, 5), 0);
            x.lay(0);
            Check.due("laid", x.netOf(0, 5), 1);
            x.rip(0);
            Check.due("ripped up", x.netOf(0, 5), 0);
        });
        e.holds("a joined net has a wire: cells that belong to it besides its pin cells (none, perhaps).", () -> {
            WireDigs x = new WireDigs();
            x.net(0, 1, -1, 0, 0);
            x.net(9, 11, -1, 0, 0);
            x.lay(0);
            x.lay(1);
            Check.due("joined without a cell", x.netOf(0, 5), 1);
            Scenes.dueWire(x, 0);
            Scenes.dueWire(x, 1, 10);
            Check.due("a wire without cells is ripped up, too", x.rip(0), 0);
            Check.due("joined no more", x.netOf(0, 5), 0);
        });
        e.holds("Cells that are not blocked and belong to no net are free.", () -> {
            WireDigs x = taken();
            Check.due("besides 2 blocked cells, 10 of pins, 7 of wires", x.count(3), 162 - 2 - 10 - 7);
            Check.due("cells of wires", x.count(8), 7);
        });
    }

    private static void dueRefusedPins(int place) {
        Supplier<WireDigs> scene = PlaceEdges::taken;
        Refusals.due(scene, "pin 0 at " + place, c -> c.net(place, 60, 62, 0, 0), IMPOSSIBLE);
        Refusals.due(scene, "pin 1 at " + place, c -> c.net(60, place, 62, 0, 0), IMPOSSIBLE);
        Refusals.due(scene, "pin 1 of two at " + place, c -> c.net(60, place, -1, 0, 0), IMPOSSIBLE);
        Refusals.due(scene, "pin 2 at " + place, c -> c.net(60, 62, place, 0, 0), IMPOSSIBLE);
    }

    private static void settings(Edges e) {
        e.section("Settings");
        e.holds("The settings are (in parentheses: range; first value)", () -> {
            int[] first = {3, 4, 6, 6};
            for (int what = 0; what < 4; what++) {
                Check.due("setting " + what, new WireDigs().count(20 + what), first[what]);
            }
            Check.due("no fifth one", new WireDigs().count(24), INVALID);
        });
        e.holds("0 the cost of a via (1 to 20; 3)", () -> {
            dueSetting(0, 1, 20, 3);
            Check.due("the least", corner(1).cost(0, 0), 3);
            Check.due("the most", corner(20).cost(0, 0), 22);
        });
        e.holds("1 the price of a cell that is dug up (0 to 50; 4)", () -> {
            dueSetting(1, 0, 50, 4);
            WireDigs x = Scenes.gate(2, 0, 0, 0);
            x.lay(0);
            x.set(1, 0);
            Check.due("the least, for 3 cells of a net with stubbornness 2", x.price(1), 6);
            x.set(1, 50);
            Check.due("the most", x.price(1), 156);
        });
        e.holds("2 the rate for a cell that was lost (0 to 50; 6)", () -> {
            dueSetting(2, 0, 50, 6);
            WireDigs x = Scenes.dugGate(2, 100, 18);
            x.set(2, 0);
            Check.due("the least, for 7 cells", x.claimOf(0, 5), 0);
            x.set(2, 50);
            Check.due("the most", x.claimOf(0, 5), 350);
        });
        e.holds("3 the patience, in acts (1 to 20; 6)", () -> {
            dueSetting(3, 1, 20, 6);
            for (int patience : new int[] {1, 20}) {
                WireDigs x = Scenes.dugGate(2, 100, 18);
                x.set(3, patience);
                x.pass(patience + 1);
                Check.due("too late by one with " + patience, x.appeal(0), IMPOSSIBLE);
                x.undo();
                x.pass(patience);
                Check.due("just not too late with " + patience, x.appeal(0), 1);
            }
        });
    }

    private static WireDigs corner(int via) {
        WireDigs x = new WireDigs();
        x.net(0, 10, -1, 0, 0);
        x.set(0, via);
        return x;
    }

    private static void dueSetting(int what, int least, int most, int first) {
        Refusals.range(WireDigs::new, "set(" + what + ", ..)", (x, value) -> x.set(what, value), least, most);
        WireDigs x = new WireDigs();
        Check.due("from the first value to the least", x.set(what, least), first);
        Check.due("from the least to the most", x.set(what, most), least);
        Check.due("the most", x.count(20 + what), most);
    }

    private static void newObject(Edges e) {
        e.section("Promise 1: A new object");
        e.holds("`WireDigs()`: Creates a chip without blocked places and nets.", () -> {
            WireDigs x = new WireDigs();
            for (int what = 0; what <= 11; what++) {
                Check.due("count(" + what + ")", x.count(what), what == 3 ? 162 : 0);
            }
            Check.due("no net 0", x.netOf(0, 0), INVALID);
            Check.due("no claim 0", x.claimOf(0, 0), INVALID);
            Check.due("nothing to unblock", x.block(0, 0), IMPOSSIBLE);
            Check.due("nothing to undo", x.undo(), IMPOSSIBLE);
            Check.due("no fault", x.fault(0), MISSING);
        });
    }

    private static void set(Edges e) {
        e.section("Promise 2: set");
        e.holds("`int set(int what, int value)`: Sets a setting.", () -> {
            WireDigs x = new WireDigs();
            x.set(0, 11);
            x.set(1, 12);
            x.set(2, 13);
            x.set(3, 14);
            for (int what = 0; what < 4; what++) {
                Check.due("setting " + what, x.count(20 + what), 11 + what);
            }
        });
        e.holds("`what`: 0 to 3", () ->
            Refusals.range(WireDigs::new, "set(.., 5)", (x, what) -> x.set(what, 5), 0, 3));
        e.holds("`value`: a value in its range", () -> {
            // 0 and 21 to 50 are in the range of some settings only.
            for (int what = 0; what < 4; what++) {
                boolean wide = what == 1 || what == 2;
                Check.due("set(" + what + ", 0)", new WireDigs().set(what, 0) == INVALID ? 0 : 1, wide ? 1 : 0);
                Check.due("set(" + what + ", 21)", new WireDigs().set(what, 21) == INVALID ? 0 : 1, wide ? 1 : 0);
            }
        });
        e.holds("Returns what it was", () -> {
            WireDigs x = new WireDigs();
            Check.due("the first value", x.set(2, 0), 6);
            Check.due("the least", x.set(2, 50), 0);
            Check.due("the most", x.set(2, 50), 50);
            Check.due("also if it stays", x.set(2, 1), 50);
        });
        e.holds("INVALID_ARGUMENT if an argument is out of range", () -> {
            Refusals.due(WireDigs::new, "no such setting", c -> c.set(4, 1), INVALID);
            Refusals.due(WireDigs::new, "no such value", c -> c.set(0, 0), INVALID);
            Refusals.due(WireDigs::new, "neither", c -> c.set(-1, -1), INVALID);
        });
    }

    private static void block(Edges e) {
        e.section("Promise 3: block");
        e.holds("`int block(int place, int is)`: Blocks a place, or does so no more.", () -> {
            WireDigs x = new WireDigs();
            x.block(80, 1);
            Check.due("blocked", x.cellOf(80), 20);
            x.block(80, 0);
            Check.due("no more", x.cellOf(80), MISSING);
        });
        e.holds("`place`: 9 * row + column, 0 to 80", () ->
            Refusals.range(WireDigs::new, "block(.., 1)", (x, place) -> x.block(place, 1), 0, 80));
        e.holds("`is`: 1 or 0", () ->
            Refusals.range(PlaceEdges::taken, "block(40, ..)", (x, is) -> x.block(40, is), 0, 1));
        e.holds("Returns how many places are blocked then", () -> {
            WireDigs x = new WireDigs();
            for (int place = 0; place < 81; place++) {
                Check.due("block(" + place + ", 1)", x.block(place, 1), place + 1);
            }
            Check.due("no cell is free", x.count(3), 0);
            for (int place = 80; place >= 0; place--) {
                Check.due("block(" + place + ", 0)", x.block(place, 0), place);
            }
            Check.due("all cells are free", x.count(3), 162);
        });
        e.holds("INVALID_ARGUMENT if an argument is out of range", () -> {
            Refusals.due(PlaceEdges::taken, "a blocked place", c -> c.block(40, 2), INVALID);
            Refusals.due(PlaceEdges::taken, "a pin", c -> c.block(0, -1), INVALID);
            Refusals.due(PlaceEdges::taken, "no place", c -> c.block(81, 0), INVALID);
            Refusals.due(PlaceEdges::taken, "neither", c -> c.block(-1, 2), INVALID);
        });
        e.holds("NOT_POSSIBLE if it is so already", () -> {
            Refusals.due(PlaceEdges::taken, "blocked", c -> c.block(40, 1), IMPOSSIBLE);
            Refusals.due(PlaceEdges::taken, "not blocked", c -> c.block(41, 0), IMPOSSIBLE);
        });
        e.holds("or a cell of the place belongs to a net", () -> {
            Refusals.due(PlaceEdges::taken, "a pin", c -> c.block(0, 1), IMPOSSIBLE);
            Refusals.due(PlaceEdges::taken, "a pin, unblocked", c -> c.block(0, 0), IMPOSSIBLE);
            Refusals.due(PlaceEdges::taken, "a wire on layer 0 alone", c -> c.block(1, 1), IMPOSSIBLE);
            Refusals.due(PlaceEdges::taken, "a wire on layer 1 alone", c -> c.block(19, 1), IMPOSSIBLE);
            WireDigs x = taken();
            x.rip(0);
            Check.due("the wire is away", x.block(1, 1), 2);
        });
    }

    private static void net(Edges e) {
        e.section("Promise 4: net");
        e.holds("`int net(int pin0, int pin1, int pin2, int stubbornness, int purse)`: Adds a net, which is not joined.",
            () -> {
                WireDigs x = new WireDigs();
                x.net(3, 13, 23, 7, 123);
                int[] facts = {3, 13, 23, 7, 123, 0, 0, 0, 0, 0, 0};
                for (int what = 0; what < facts.length; what++) {
                    Check.due("netOf(0, " + what + ")", x.netOf(0, what), facts[what]);
                }
                Check.due("none is joined", x.count(1), 0);
                netsAfterUndo();
            });
        e.holds("`pin0`: place of its pin 0, 0 to 80", () ->
            Refusals.range(WireDigs::new, "pin0", (x, pin) -> x.net(pin, 40, -1, 0, 0), 0, 80));
        e.holds("`pin1`: place of its pin 1, 0 to 80", () ->
            Refusals.range(WireDigs::new, "pin1", (x, pin) -> x.net(40, pin, -1, 0, 0), 0, 80));
        e.holds("`pin2`: place of its pin 2, 0 to 80, or -1 if it has two", () -> {
            Refusals.range(WireDigs::new, "pin2", (x, pin) -> x.net(40, 41, pin, 0, 0), -1, 80);
            WireDigs x = new WireDigs();
            x.net(40, 41, 0, 0, 0);
            Check.due("pin 2 at place 0", x.netOf(0, 2), 0);
            Check.due("its cell on layer 1", x.cellOf(81), 10);
        });
        e.holds("`stubbornness`: 0 to 9", () ->
            Refusals.range(WireDigs::new, "stubbornness", (x, value) -> x.net(0, 1, 2, value, 9), 0, 9));
        e.holds("`purse`: 0 to 9999", () ->
            Refusals.range(WireDigs::new, "purse", (x, value) -> x.net(0, 1, 2, 9, value), 0, 9999));
        e.holds("Returns its number", () -> {
            WireDigs x = sixNets();
            x.undo();
            Check.due("the number of one that was undone", x.net(79, 80, -1, 0, 0), 5);
        });
        e.holds("INVALID_ARGUMENT if an argument is out of range", () -> {
            Refusals.due(PlaceEdges::taken, "rather than a blocked pin", c -> c.net(40, 60, -1, 10, 0), INVALID);
            Refusals.due(PlaceEdges::taken, "rather than another's pin", c -> c.net(0, 60, 81, 0, 0), INVALID);
            Refusals.due(PlaceEdges::sixNets, "rather than the limit", c -> c.net(60, 61, -1, 0, 10000), INVALID);
        });
        e.holds("or two of its places are the same", () -> {
            Refusals.due(PlaceEdges::taken, "both blocked", c -> c.net(40, 40, -1, 0, 0), INVALID);
            Refusals.due(PlaceEdges::taken, "a third one at a pin", c -> c.net(60, 0, 60, 0, 0), INVALID);
            Refusals.due(PlaceEdges::sixNets, "rather than the limit", c -> c.net(60, 61, 61, 0, 0), INVALID);
        });
        e.holds("NOT_POSSIBLE if one of them is blocked", () -> {
            dueRefusedPins(40);
            Refusals.due(PlaceEdges::sixNetsAndBlocked, "rather than the limit", c -> c.net(60, 80, -1, 0, 0), IMPOSSIBLE);
        });
        e.holds("or one of its cells belongs to a net", () -> {
            dueRefusedPins(8);
            dueRefusedPins(1);
            dueRefusedPins(19);
            Refusals.due(PlaceEdges::sixNets, "rather than the limit", c -> c.net(60, 61, 0, 0, 0), IMPOSSIBLE);
        });
        e.holds("LIMIT_REACHED if there are 6", () -> {
            Refusals.due(PlaceEdges::sixNets, "with two pins", c -> c.net(60, 61, -1, 0, 0), LIMIT);
            Refusals.due(PlaceEdges::sixNets, "with three pins", c -> c.net(60, 61, 62, 9, 9999), LIMIT);
        });
    }

    /** Nothing of nets that were undone is left in those that are added after them. */
    private static void netsAfterUndo() {
        int[] facts0 = {1, 2, 3, 5, 6, 0, 0, 0, 0, 0, 0};
        int[] facts1 = {9, 10, MISSING, 7, 8, 0, 0, 0, 0, 0, 0};
        for (int changes = 0; changes < 7; changes++) {
            WireDigs x = Scenes.dugGate(2, 100, 20);
            for (int i = 0; i < 4; i++) {
                x.undo();
            }
            Check.due("no nets", x.count(0), 0);
            for (int i = 0; i < changes; i++) {
                x.pass(1);
            }
            x.net(1, 2, 3, 5, 6);
            x.net(9, 10, -1, 7, 8);
            for (int what = 0; what < facts0.length; what++) {
                Check.due("netOf(0, " + what + ") after undo", x.netOf(0, what), facts0[what]);
                Check.due("netOf(1, " + what + ") after undo", x.netOf(1, what), facts1[what]);
            }
            Check.due("claims", x.count(4), 0);
            Check.due("free cells", x.count(3), 136);
        }
    }

    private static WireDigs sixNetsAndBlocked() {
        WireDigs x = sixNets();
        x.block(80, 1);
        return x;
    }

    private static WireDigs purse(int coins) {
        WireDigs x = new WireDigs();
        x.net(0, 1, -1, 0, 9999);
        x.net(2, 3, -1, 0, 5);
        for (int has = 9999; has < coins; has += Math.min(9999, coins - has)) {
            x.give(0, Math.min(9999, coins - has));
        }
        return x;
    }

    private static void give(Edges e) {
        e.section("Promise 5: give");
        e.holds("`int give(int net, int coins)`: Gives coins to a net.", () -> {
            WireDigs x = purse(9999);
            x.give(1, 7);
            Check.due("its purse", x.netOf(1, 4), 12);
            Check.due("the other one's purse", x.netOf(0, 4), 9999);
            Check.due("nobody has paid it", x.netOf(1, 10), 0);
        });
        e.holds("`net`: number of the net", () ->
            Refusals.range(() -> purse(9999), "give(.., 1)", (x, net) -> x.give(net, 1), 0, 1));
        e.holds("`coins`: 1 to 9999", () ->
            Refusals.range(() -> purse(9999), "give(1, ..)", (x, coins) -> x.give(1, coins), 1, 9999));
        e.holds("Returns its purse then", () -> {
            Check.due("the least", purse(9999).give(1, 1), 6);
            Check.due("the most", purse(9999).give(0, 9999), 19998);
        });
        e.holds("INVALID_ARGUMENT if an argument is out of range", () -> {
            Refusals.due(() -> purse(100000), "too many rather than the limit", c -> c.give(0, 10000), INVALID);
            Refusals.due(() -> purse(100000), "none rather than the limit", c -> c.give(0, 0), INVALID);
            Refusals.due(() -> purse(100000), "no such net", c -> c.give(2, 1), INVALID);
            Refusals.due(WireDigs::new, "no net at all", c -> c.give(0, 1), INVALID);
        });
        e.holds("LIMIT_REACHED if it would be above 100000", () -> {
            Check.due("just to the limit", purse(99999).give(0, 1), 100000);
            Check.due("in one go", purse(90001).give(0, 9999), 100000);
            Refusals.due(() -> purse(100000), "one more", c -> c.give(0, 1), LIMIT);
            Refusals.due(() -> purse(90002), "above it in one go", c -> c.give(0, 9999), LIMIT);
        });
    }

    private static void netOf(Edges e) {
        Supplier<WireDigs> scene = () -> Scenes.dugGate(2, 100, 20);
        e.section("Promise 6: netOf");
        e.holds("`int netOf(int net, int what)`: Returns something of a net.", () -> {
            Check.due("of the first one", taken().netOf(0, 1), 8);
            Check.due("of the last one", taken().netOf(1, 1), 28);
        });
        e.holds("`net`: number of the net", () -> {
            Refusals.range(scene, "netOf(.., 0)", (x, net) -> x.netOf(net, 0), 0, 1);
            Refusals.range(PlaceEdges::sixNets, "netOf(.., 10)", (x, net) -> x.netOf(net, 10), 0, 5);
        });
        e.holds("`what`: 0 to 2: the place of its pin 0, 1, 2", () -> {
            Refusals.range(scene, "netOf(0, ..)", (x, what) -> x.netOf(0, what), 0, 10);
            int[] pins = {80, 0, 44};
            WireDigs x = new WireDigs();
            x.net(pins[0], pins[1], pins[2], 0, 0);
            for (int pin = 0; pin < 3; pin++) {
                Check.due("pin " + pin, x.netOf(0, pin), pins[pin]);
            }
        });
        e.holds("3: its stubbornness", () -> {
            Check.due("the least", Scenes.gate(0, 5, 9, 5).netOf(0, 3), 0);
            Check.due("the most", Scenes.gate(0, 5, 9, 5).netOf(1, 3), 9);
        });
        e.holds("4: its purse", () -> {
            Check.due("the least", Scenes.gate(1, 0, 1, 9999).netOf(0, 4), 0);
            Check.due("the most at first", Scenes.gate(1, 0, 1, 9999).netOf(1, 4), 9999);
            Check.due("the most later", purse(100000).netOf(0, 4), 100000);
        });
        e.holds("5: 1 if it is joined, otherwise 0", () -> {
            Check.due("dug up", scene.get().netOf(0, 5), 0);
            Check.due("joined", scene.get().netOf(1, 5), 1);
        });
        e.holds("6: the cells of its wire", () -> {
            Check.due("none", scene.get().netOf(0, 6), 0);
            Check.due("all of them", scene.get().netOf(1, 6), 13);
            Check.due("from the first cell on", Scenes.cornerWires().netOf(0, 6), 16);
            Check.due("up to the last cell", Scenes.cornerWires().netOf(1, 6), 8);
        });
        e.holds("7: places at which both cells are of its wire", () -> {
            Check.due("none", scene.get().netOf(0, 7), 0);
            Check.due("all of them", scene.get().netOf(1, 7), 4);
            Check.due("in the first corner", Scenes.cornerWires().netOf(0, 7), 1);
            Check.due("in the last corner", Scenes.cornerWires().netOf(1, 7), 1);
        });
        e.holds("8: how often it was dug up", () -> {
            WireDigs x = scene.get();
            Check.due("once", x.netOf(0, 8), 1);
            Check.due("never", x.netOf(1, 8), 0);
            x.dig(0);
            x.rip(0);
            Check.due("ripping up is not counted", x.netOf(0, 8), 1);
            Check.due("once now", x.netOf(1, 8), 1);
            x.give(1, 100);
            x.lay(0);
            x.dig(1);
            Check.due("twice", x.netOf(0, 8), 2);
        });
        e.holds("9: what it has paid so far", () -> {
            WireDigs x = scene.get();
            Check.due("nothing", x.netOf(0, 9), 0);
            Check.due("for a digging", x.netOf(1, 9), 18);
            x.appeal(0);
            x.hear();
            Check.due("in a hearing, too", x.netOf(1, 9), 20);
        });
        e.holds("10: what it has been paid so far, by diggings and by hearings", () -> {
            WireDigs x = scene.get();
            Check.due("nothing", x.netOf(1, 10), 0);
            Check.due("by a digging", x.netOf(0, 10), 18);
            x.appeal(0);
            x.hear();
            Check.due("by a hearing, too", x.netOf(0, 10), 20);
        });
        e.holds("Returns the number", () -> {
            int[] facts = {36, 44, MISSING, 2, 118, 0, 0, 0, 1, 0, 18};
            for (int what = 0; what < facts.length; what++) {
                Check.due("netOf(0, " + what + ")", scene.get().netOf(0, what), facts[what]);
            }
        });
        e.holds("INVALID_ARGUMENT if an argument is out of range", () -> {
            Refusals.due(scene, "no such net rather than no pin 2", c -> c.netOf(2, 2), INVALID);
            Refusals.due(WireDigs::new, "no net at all", c -> c.netOf(0, 0), INVALID);
            Refusals.due(scene, "nothing of that number", c -> c.netOf(0, 11), INVALID);
        });
        e.holds("NOT_FOUND for 2 if it has two pins", () ->
            Refusals.due(scene, "no pin 2", c -> c.netOf(1, 2), MISSING));
    }

    private static void cellOf(Edges e) {
        e.section("Promise 7: cellOf");
        e.holds("`int cellOf(int cell)`: Returns to whom a cell belongs.", () -> {
            int[] owners = {10, 0, 0, 0, 10, 0, 0, 0, 10, MISSING};
            for (int cell = 0; cell < owners.length; cell++) {
                Check.due("cellOf(" + cell + ")", taken().cellOf(cell), owners[cell]);
            }
        });
        e.holds("`cell`: 0 to 161", () ->
            Refusals.range(Scenes::cornerWires, "cellOf", (x, cell) -> x.cellOf(cell), 0, 161));
        e.holds("Returns the number of the net of whose wire it is", () -> {
            Check.due("the first cell", Scenes.cornerWires().cellOf(0), 0);
            Check.due("the last cell", Scenes.cornerWires().cellOf(161), 1);
            WireDigs x = sixNets();
            x.undo();
            x.net(60, 62, -1, 0, 0);
            x.lay(5);
            Check.due("the last net", x.cellOf(61), 5);
        });
        e.holds("10 plus this number for a pin cell", () -> {
            Check.due("the first net, on layer 0", sixNets().cellOf(0), 10);
            Check.due("the first net, on layer 1", sixNets().cellOf(81), 10);
            Check.due("the last net, on layer 0", sixNets().cellOf(46), 15);
            Check.due("the last net, on layer 1", sixNets().cellOf(127), 15);
        });
        e.holds("20 if it is blocked", () -> {
            Check.due("the first cell", Scenes.only(40).cellOf(0), 20);
            Check.due("the last cell", Scenes.only(40).cellOf(161), 20);
        });
        e.holds("INVALID_ARGUMENT if cell is out of range", () -> {
            Refusals.due(WireDigs::new, "cellOf(-1)", c -> c.cellOf(-1), INVALID);
            Refusals.due(WireDigs::new, "cellOf(162)", c -> c.cellOf(162), INVALID);
        });
        e.holds("NOT_FOUND if it is free", () -> {
            Refusals.due(WireDigs::new, "the first cell", c -> c.cellOf(0), MISSING);
            Refusals.due(WireDigs::new, "the last cell", c -> c.cellOf(161), MISSING);
            Refusals.due(PlaceEdges::taken, "below a wire", c -> c.cellOf(19), MISSING);
        });
    }

    private static void wireAt(Edges e) {
        e.section("Promise 8: wireAt");
        e.holds("`int wireAt(int net, int index)`: Returns a cell of the wire of a net; they are in order by their numbers.",
            () -> {
                Scenes.dueWire(Scenes.cornerWires(), 0, 0, 1, 2, 3, 4, 5, 6, 7, 81, 90, 99, 108, 117, 126, 135, 144);
                Scenes.dueWire(Scenes.cornerWires(), 1, 77, 78, 79, 80, 134, 143, 152, 161);
            });
        e.holds("`net`: number of the net", () ->
            Refusals.range(Scenes::cornerWires, "wireAt(.., 0)", (x, net) -> x.wireAt(net, 0), 0, 1));
        e.holds("`index`: 0 for the first one, and so on", () ->
            Refusals.rangeFrom(Scenes::cornerWires, "wireAt(0, ..)", (x, index) -> x.wireAt(0, index), 0));
        e.holds("Returns the number of the cell", () -> {
            Check.due("the first cell of all", Scenes.cornerWires().wireAt(0, 0), 0);
            Check.due("the last cell of all", Scenes.cornerWires().wireAt(1, 7), 161);
        });
        e.holds("INVALID_ARGUMENT if there is no such net or index is negative", () -> {
            Refusals.due(PlaceEdges::sixNets, "index rather than none", c -> c.wireAt(5, -1), INVALID);
            Refusals.due(PlaceEdges::sixNets, "net rather than none", c -> c.wireAt(6, 0), INVALID);
        });
        e.holds("NOT_FOUND if there are not so many", () -> {
            Refusals.due(Scenes::cornerWires, "behind the last one", c -> c.wireAt(1, 8), MISSING);
            Refusals.due(PlaceEdges::sixNets, "of no wire", c -> c.wireAt(5, 0), MISSING);
            Refusals.due(PlaceEdges::sixNets, "far behind it", c -> c.wireAt(5, Integer.MAX_VALUE), MISSING);
        });
    }
}
