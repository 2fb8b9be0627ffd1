import java.util.function.Supplier;

/** Sentences of the term Routes, and of the promises 15 to 19. */
final class RouteEdges {
    private static final int INVALID = Scenes.INVALID;
    private static final int IMPOSSIBLE = Scenes.IMPOSSIBLE;
    private static final int MISSING = Scenes.MISSING;

    private RouteEdges() {
    }

    static void all(Edges e) {
        e.section("Routes");
        paths(e);
        ends(e);
        ways(e);
        choice(e);
        secondPath(e);
        lay(e);
        dig(e);
        cost(e);
        price(e);
        victims(e);
        routeAt(e);
        bestOrder(e);
    }

    private static WireDigs net(int pin0, int pin1, int pin2) {
        WireDigs x = new WireDigs();
        x.net(pin0, pin1, pin2, 0, 0);
        return x;
    }

    /** Net 0 keeps the hole, net 1 would have to dig. */
    private static WireDigs laidGate() {
        return Scenes.laidGate(2, 100, 20);
    }

    /** Net 1 has one coin too few for digging. */
    private static WireDigs poorGate() {
        return Scenes.laidGate(2, 100, 17);
    }

    /** Net 1 has no route, not even with digging: pins of net 0 are in its way. */
    private static WireDigs cutOff() {
        WireDigs x = Scenes.only(0, 1, 2, 3);
        x.net(1, 2, -1, 0, 0);
        x.net(0, 3, -1, 0, 9999);
        return x;
    }

    /** Net 1 has pins of net 0 in the way of its second path alone. */
    private static WireDigs cutOffSecond() {
        WireDigs x = Scenes.only(0, 1, 2, 3, 4);
        x.net(2, 3, -1, 0, 0);
        x.net(0, 1, 4, 0, 9999);
        return x;
    }

    private static void paths(Edges e) {
        e.holds("A route of a net that is not joined", () -> {
            WireDigs x = laidGate();
            Check.due("joined", x.cost(0, 0), IMPOSSIBLE);
            x.rip(0);
            Check.due("not joined", x.cost(0, 0), 8);
        });
        e.holds("has a path from its pin 1 to what is joined, which is its pin 0 at first", () -> {
            Scenes.dueRoute(net(0, 8, -1), 0, 0, 8, 7, 6, 5, 4, 3, 2, 1, 0);
            // Pin 2 is none of what is joined at first: the path does not end there.
            Scenes.dueRoute(net(0, 8, 7), 0, 0, 8, 7, 6, 5, 4, 3, 2, 1, 0, 7);
        });
        e.holds("and then, if there is a pin 2, another one from this to what is joined then", () -> {
            Scenes.dueRoute(net(0, 8, 22), 0, 0, 8, 7, 6, 5, 4, 3, 2, 1, 0, 103, 94, 85, 4);
            // At place 0 there is a pin 2, too.
            Scenes.dueRoute(net(2, 3, 0), 0, 0, 3, 2, 0, 1, 2);
        });
        e.holds("A path begins in one of both cells of its pin (without cost)", () -> {
            Scenes.dueRoute(net(0, 2, -1), 0, 0, 2, 1, 0);
            Check.due("on layer 0", net(0, 2, -1).cost(0, 0), 2);
            Scenes.dueRoute(net(0, 18, -1), 0, 0, 99, 90, 81);
            Check.due("on layer 1", net(0, 18, -1).cost(0, 0), 2);
        });
        e.holds("goes by steps and vias", () ->
            Scenes.dueRoute(net(0, 20, -1), 0, 0, 20, 19, 18, 99, 90, 81));
    }

    private static void ends(Edges e) {
        e.holds("and ends in the first cell that belongs to what is joined.", () -> {
            // The cells of pin 0 are both joined; the path ends in that which it comes to first.
            Scenes.dueRoute(net(10, 12, -1), 0, 0, 12, 11, 10);
            Scenes.dueRoute(net(10, 28, -1), 0, 0, 109, 100, 91);
            // So it is with what the first path joined: the second one has no more of it than its end.
            Scenes.dueRoute(net(0, 8, 13), 0, 0, 8, 7, 6, 5, 4, 3, 2, 1, 0, 94, 85, 4);
        });
        e.holds("Then all its cells are joined, too", () -> {
            for (int column = 1; column < 8; column++) {
                // One step above the row of the first path, which has no via there.
                Check.due("to the cell in column " + column, net(36, 44, 27 + column).cost(0, 0), 8 + 1 + 3);
            }
        });
        e.holds("and both cells of each own pin on it.", () -> {
            // The path has pin 1's cell on layer 1 only, but the second one ends on layer 0.
            Scenes.dueRoute(net(4, 76, 72), 0, 0, 157, 148, 139, 130, 121, 112, 103, 94, 85, 72, 73, 74, 75, 76);
            // The path has pin 2's cell on layer 1 only, but the second one begins on layer 0.
            Scenes.dueRoute(net(4, 76, 40), 0, 0, 157, 148, 139, 130, 121, 112, 103, 94, 85, 40);
            WireDigs x = net(0, 1, -1);
            x.net(4, 76, 40, 0, 0);
            Scenes.dueRoute(x, 1, 0, 157, 148, 139, 130, 121, 112, 103, 94, 85, 40);
        });
        e.holds("(A path that begins in a cell that is joined already has this cell alone, and costs nothing.)", () -> {
            Check.due("cost with pin 2 at the end", net(0, 8, 7).cost(0, 0), 8);
            Check.due("cost with pin 2 at the begin", net(0, 8, 1).cost(0, 0), 8);
            Scenes.dueRoute(net(0, 8, 1), 0, 0, 8, 7, 6, 5, 4, 3, 2, 1, 0, 1);
        });
    }

    private static void ways(Edges e) {
        e.holds("A path can go through free cells", () -> {
            WireDigs x = Scenes.only(0, 1, 2);
            x.net(0, 2, -1, 0, 0);
            Check.due("free", x.cost(0, 0), 2);
            x.block(1, 1);
            Check.due("blocked", x.cost(0, 0), MISSING);
            Check.due("blocked, with digging", x.cost(0, 1), MISSING);
        });
        e.holds("and pin cells of its net", () -> {
            WireDigs x = Scenes.only(0, 1, 2);
            x.net(0, 2, 1, 0, 0);
            Check.due("its own pin", x.cost(0, 0), 2);
            Check.due("pins of another", cutOff().cost(1, 0), MISSING);
            Check.due("pins of another, with digging", cutOff().cost(1, 1), MISSING);
        });
        e.holds("if digging is allowed, also through cells of the wires of other nets.", () -> {
            Check.due("not allowed", laidGate().cost(1, 0), MISSING);
            Check.due("allowed", laidGate().cost(1, 1), 22 + 3 * (4 + 2));
        });
        e.holds("Its cost is 1 for each step", () -> {
            Check.due("one step", net(0, 1, -1).cost(0, 0), 1);
            Check.due("all of a row", net(72, 80, -1).cost(0, 0), 8);
            Check.due("all of a column", net(8, 80, -1).cost(0, 0), 8);
        });
        e.holds("the cost of a via for each via", () -> {
            WireDigs x = Scenes.gate(0, 0, 0, 0);
            Check.due("four vias for 3", x.cost(1, 0), 10 + 4 * 3);
            x.set(0, 1);
            Check.due("for 1", x.cost(1, 0), 10 + 4);
            x.set(0, 20);
            Check.due("for 20", x.cost(1, 0), 10 + 4 * 20);
            WireDigs y = snake();
            y.set(0, 20);
            Check.due("48 steps and 8 vias", y.lay(0), 48 + 8 * 20);
            Check.due("cells of them", y.netOf(0, 6), 55);
            Check.due("vias of them", y.netOf(0, 7), 8);
        });
        e.holds("and for each cell of the wire of another net that it enters the price plus the stubbornness of this net.", () -> {
            WireDigs x = Scenes.twoGates(9, 0, 0);
            x.lay(0);
            x.lay(1);
            Check.due("three cells of each", x.cost(2, 1), 8 + 3 * (4 + 9) + 3 * 4);
            x.set(1, 0);
            Check.due("for the stubbornness alone", x.cost(2, 1), 8 + 3 * 9);
            x.set(1, 50);
            Check.due("for the highest price", x.cost(2, 1), 8 + 3 * 59 + 3 * 50);
        });
    }

    /** The rows 0, 2, 4, 6 and 8, joined at one end each, from one corner to the other. */
    private static WireDigs snake() {
        WireDigs x = new WireDigs();
        for (int row = 1; row < 9; row += 2) {
            int hole = row % 4 == 1 ? 8 : 0;
            for (int column = 0; column < 9; column++) {
                if (column != hole) {
                    x.block(9 * row + column, 1);
                }
            }
        }
        x.net(0, 80, -1, 0, 0);
        return x;
    }

    /** Net 1 goes through two cells of net 0, or around for 10 more. */
    private static WireDigs around(int price, int stubbornness) {
        WireDigs x = new WireDigs();
        x.net(37, 43, -1, stubbornness, 0);
        x.lay(0);
        x.net(30, 49, -1, 0, 100);
        x.block(31, 1);
        x.block(48, 1);
        x.set(1, price);
        return x;
    }

    private static void choice(Edges e) {
        e.holds("Of the paths with the least cost it is", () -> {
            Check.due("without digging", around(5, 0).cost(1, 0), 16);
            Check.due("digging is cheaper", around(3, 0).cost(1, 1), 15);
            Check.due("so it is dug", around(3, 0).price(1), 6);
            Check.due("digging is dearer by one", around(4, 0).cost(1, 1), 16);
            Check.due("so it is not dug", around(4, 0).price(1), 0);
            Check.due("stubbornness is counted, too", around(2, 2).price(1), 0);
        });
        e.holds("the one with the lowest number of its first cell", () -> {
            Scenes.dueRoute(net(0, 10, -1), 0, 0, 10, 9, 90, 81);
            Scenes.dueRoute(net(10, 0, -1), 0, 0, 0, 1, 82, 91);
        });
        e.holds("of several then of its second one, and so on.", () -> {
            WireDigs x = net(36, 44, -1);
            x.block(40, 1);
            Scenes.dueRoute(x, 0, 0, 125, 116, 35, 34, 33, 32, 31, 30, 29, 28, 27, 108, 117);
            WireDigs y = net(36, 40, -1);
            y.block(38, 1);
            y.block(31, 1);
            y.block(49, 1);
            // Above and below place 38 costs the same: the fourth cell decides.
            Scenes.dueRoute(y, 0, 0, 40, 39, 120, 111, 30, 29, 28, 27, 108, 117);
        });
    }

    /** Net 0 has the hole in column 2; net 1's second path would meet its first one there. */
    private static WireDigs metTwice() {
        WireDigs x = new WireDigs();
        Scenes.wall(x, 2);
        x.net(28, 30, -1, 0, 0);
        x.net(36, 44, 57, 0, 12);
        x.set(1, 3);
        x.lay(0);
        return x;
    }

    private static void secondPath(Edges e) {
        e.holds("The second path is looked for when the first one is there", () -> {
            // Another first path of the same cost would make the second one cheaper.
            Check.due("cost", net(0, 10, 2).cost(0, 0), 5 + 2);
            Scenes.dueRoute(net(0, 10, 2), 0, 0, 10, 9, 90, 81, 2, 1, 0);
        });
        e.holds("cells of other nets that the first one goes through belong to what is joined, so they are entered no more.", () -> {
            Scenes.dueRoute(metTwice(), 1, 1, 44, 43, 42, 41, 40, 39, 38, 37, 36, 138, 129, 120, 39);
            // The second path pays for cell 120, but its via to cell 39 costs that of the via alone.
            Check.due("cost", metTwice().cost(1, 1), 8 + 3 * 3 + 1 + 1 + 3 + 3);
            Check.due("price", metTwice().price(1), 4 * 3);
        });
        e.holds("The cost of a route is that of its paths together.", () -> {
            Check.due("8 of the first, 5 of the second", net(0, 8, 22).cost(0, 0), 13);
            Check.due("nothing of the second", net(0, 8, 4).cost(0, 0), 8);
        });
        e.holds("There is no route if a path is missing.", () -> {
            Check.due("the first one, without digging", cutOff().cost(1, 0), MISSING);
            Check.due("the first one, with digging", cutOff().cost(1, 1), MISSING);
            Check.due("the second one, without digging", cutOffSecond().cost(1, 0), MISSING);
            Check.due("the second one, with digging", cutOffSecond().cost(1, 1), MISSING);
            Refusals.due(RouteEdges::cutOffSecond, "lay", c -> c.lay(1), IMPOSSIBLE);
            Refusals.due(RouteEdges::cutOffSecond, "dig", c -> c.dig(1), IMPOSSIBLE);
        });
    }

    private static void lay(Edges e) {
        e.holds("To lay a net means: it has a route without digging", () -> {
            Refusals.due(RouteEdges::laidGate, "lay where only digging helps", c -> c.lay(1), IMPOSSIBLE);
            WireDigs x = around(0, 0);
            Check.due("lay where digging is cheaper", x.lay(1), 16);
            Check.due("nobody is dug up", x.netOf(0, 6), 5);
        });
        e.holds("the cells of it that are no pin cells are its wire, and it is joined.", () -> {
            WireDigs x = net(0, 8, 4);
            x.lay(0);
            Scenes.dueWire(x, 0, 1, 2, 3, 5, 6, 7);
            Check.due("joined", x.netOf(0, 5), 1);
            WireDigs y = net(0, 1, 2);
            y.lay(0);
            Scenes.dueWire(y, 0);
            Check.due("joined without a cell", y.netOf(0, 5), 1);
        });
    }

    private static void dig(Edges e) {
        e.holds("To dig means: likewise, with digging allowed.", () -> {
            WireDigs x = laidGate();
            x.dig(1);
            Scenes.dueWire(x, 1, 28, 29, 30, 32, 33, 34, 39, 40, 41, 111, 113, 120, 122);
            Check.due("joined", x.netOf(1, 5), 1);
            WireDigs y = net(0, 1, -1);
            Check.due("with nothing to dig up", y.dig(0), 0);
            Check.due("joined", y.netOf(0, 5), 1);
        });
        e.holds("For each cell of a wire that the route goes through, the net pays the price plus the stubbornness of the other net to this one.", () -> {
            WireDigs x = Scenes.twoGates(9, 0, 51);
            x.lay(0);
            x.lay(1);
            Check.due("dig", x.dig(2), 3 * 13 + 3 * 4);
            Check.due("to net 0", x.netOf(0, 10), 39);
            Check.due("to net 1", x.netOf(1, 10), 12);
            Check.due("all by net 2", x.netOf(2, 9), 51);
            WireDigs y = metTwice();
            Check.due("once for the cell in which both paths are", y.dig(1), 12);
        });
        e.holds("Each net of which a cell was dug up loses all of its wire, and is not joined any more.", () -> {
            WireDigs x = Scenes.dugGate(2, 100, 18);
            Scenes.dueWire(x, 0);
            Check.due("not joined", x.netOf(0, 5), 0);
            Check.due("a cell that was not dug up", x.cellOf(43), MISSING);
            WireDigs y = Scenes.twoGates(0, 0, 12);
            y.lay(0);
            y.lay(1);
            y.rip(1);
            y.dig(2);
            Check.due("the one that lost its wire itself has none to lose", y.netOf(1, 8), 0);
            Check.due("the other one was dug up", y.netOf(0, 8), 1);
        });
        e.holds("It has a claim then: against the digging net, with how many cells its wire had, how many vias "
            + "(places at which both cells were of the wire), what it was paid, and its wire as it was.", () -> {
            WireDigs x = Scenes.dugGate(2, 100, 20);
            x.dig(0);
            Scenes.dueClaim(x, 0, 0, 1, 7, 0, 18);
            Scenes.dueClaim(x, 1, 1, 0, 13, 4, 15);
            WireDigs z = laidGate();
            z.price(1);
            z.victims(1);
            z.dig(1);
            Check.due("paid after it was asked for", z.claimOf(0, 4), 18);
            Check.due("received after it was asked for", z.netOf(0, 10), 18);
            WireDigs y = Scenes.dugGate(2, 100, 18);
            y.appeal(0);
            y.hear();
            Scenes.dueWire(y, 0, 37, 38, 39, 40, 41, 42, 43);
        });
        e.holds("What it is paid comes to its purse.", () -> {
            Check.due("its purse", Scenes.dugGate(2, 100, 18).netOf(0, 4), 118);
            WireDigs x = Scenes.gate(2, 9999, 1, 18);
            for (int i = 0; i < 9; i++) {
                x.give(0, 9999);
            }
            x.give(0, 10);
            x.lay(0);
            x.dig(1);
            Check.due("also above what can be given", x.netOf(0, 4), 100018);
            Check.due("no more can be given then", x.give(0, 1), Scenes.LIMIT);
        });
        e.holds("(It pays with what it has itself at the beginning.)", () -> {
            Check.due("just enough", Scenes.dugGate(2, 100, 18).netOf(1, 4), 0);
            Refusals.due(RouteEdges::poorGate, "one coin too few", c -> c.dig(1), IMPOSSIBLE);
        });
    }

    private static void cost(Edges e) {
        e.section("Promise 15: cost");
        e.holds("`int cost(int net, int digs)`: Returns the cost of the route of a net.", () ->
            Check.due("of a path of pins alone", net(0, 1, 2).cost(0, 0), 2));
        e.holds("`net`: number of the net", () ->
            Refusals.range(RouteEdges::cutOff, "cost(.., 1)", (x, net) -> x.cost(net, 1), 0, 1));
        e.holds("`digs`: 0: without digging; 1: with digging allowed", () -> {
            Refusals.range(RouteEdges::laidGate, "cost(1, ..)", (x, digs) -> x.cost(1, digs), 0, 1);
            Check.due("0", around(0, 0).cost(1, 0), 16);
            Check.due("1", around(0, 0).cost(1, 1), 9);
        });
        e.holds("Returns the cost", () -> {
            Check.due("the least", net(40, 41, -1).cost(0, 0), 1);
            Check.due("the same as that of lay", net(40, 41, -1).lay(0), 1);
        });
        e.holds("INVALID_ARGUMENT if an argument is out of range", () -> {
            Refusals.due(RouteEdges::laidGate, "digs rather than joined", c -> c.cost(0, 2), INVALID);
            Refusals.due(RouteEdges::cutOff, "digs rather than no route", c -> c.cost(1, -1), INVALID);
            Refusals.due(RouteEdges::laidGate, "no such net", c -> c.cost(2, 0), INVALID);
            Refusals.due(WireDigs::new, "no net at all", c -> c.cost(0, 0), INVALID);
        });
        e.holds("NOT_POSSIBLE if it is joined", () -> {
            Refusals.due(RouteEdges::laidGate, "without digging", c -> c.cost(0, 0), IMPOSSIBLE);
            Refusals.due(RouteEdges::laidGate, "with digging", c -> c.cost(0, 1), IMPOSSIBLE);
        });
        e.holds("NOT_FOUND if there is no route", () -> {
            Refusals.due(RouteEdges::laidGate, "without digging", c -> c.cost(1, 0), MISSING);
            Refusals.due(RouteEdges::cutOff, "with digging", c -> c.cost(1, 1), MISSING);
        });
    }

    private static void price(Edges e) {
        e.section("Promise 16: price");
        e.holds("`int price(int net)`: Returns what a net would pay for digging (whatever it has).", () -> {
            WireDigs x = Scenes.gate(2, 0, 0, 0);
            x.lay(0);
            Check.due("with an empty purse", x.price(1), 18);
        });
        dueNetArgument(e, (x, net) -> x.price(net));
        e.holds("Returns the coins", () -> {
            Check.due("none where nothing is dug up", net(0, 8, -1).price(0), 0);
            WireDigs x = Scenes.gate(0, 0, 0, 0);
            x.lay(0);
            x.set(1, 0);
            Check.due("none where it costs nothing", x.price(1), 0);
        });
        dueNetErrors(e, (x, net) -> x.price(net));
    }

    private static void victims(Edges e) {
        e.section("Promise 17: victims");
        e.holds("`int victims(int net)`: Returns the nets that would be dug up if a net dug.", () -> {
            WireDigs x = Scenes.twoGates(0, 0, 0);
            x.lay(0);
            x.lay(1);
            Check.due("both", x.victims(2), 3);
            x.set(1, 0);
            Check.due("also if it costs nothing", x.victims(2), 3);
        });
        dueNetArgument(e, (x, net) -> x.victims(net));
        e.holds("Returns the set of nets", () -> {
            Check.due("nobody", net(0, 8, -1).victims(0), 0);
            Check.due("the first net", laidGate().victims(1), 1);
            Check.due("the last net", Scenes.laidGateOfLastNets().victims(4), 32);
        });
        dueNetErrors(e, (x, net) -> x.victims(net));
    }

    private static void dueNetArgument(Edges e, Refusals.Call call) {
        e.holds("`net`: number of the net", () ->
            Refusals.range(RouteEdges::cutOff, "the call", call, 0, 1));
    }

    private static void dueNetErrors(Edges e, Refusals.Call call) {
        e.holds("INVALID_ARGUMENT", () -> {
            Refusals.due(RouteEdges::laidGate, "no such net", c -> call.on(c, 2), INVALID);
            Refusals.due(WireDigs::new, "no net at all", c -> call.on(c, 0), INVALID);
        });
        e.holds("NOT_POSSIBLE if it is joined", () ->
            Refusals.due(RouteEdges::laidGate, "a joined net", c -> call.on(c, 0), IMPOSSIBLE));
        e.holds("NOT_FOUND if there is no route", () -> {
            Refusals.due(RouteEdges::cutOff, "no first path", c -> call.on(c, 1), MISSING);
            Refusals.due(RouteEdges::cutOffSecond, "no second path", c -> call.on(c, 1), MISSING);
        });
    }

    private static void routeAt(Edges e) {
        e.section("Promise 18: routeAt");
        e.holds("`int routeAt(int net, int digs, int index)`: Returns a cell of the route of a net: "
            + "all cells of the first path from its begin on, then those of the second one.", () -> {
            Scenes.dueRoute(net(0, 2, 12), 0, 0, 2, 1, 0, 12, 11, 92, 83);
        });
        e.holds("`net`: number of the net", () ->
            Refusals.range(RouteEdges::cutOff, "routeAt(.., 1, 0)", (x, net) -> x.routeAt(net, 1, 0), 0, 1));
        e.holds("`digs`: 0 or 1", () -> {
            Refusals.range(RouteEdges::laidGate, "routeAt(1, .., 0)", (x, digs) -> x.routeAt(1, digs, 0), 0, 1);
            Check.due("0", around(0, 0).routeAt(1, 0, 0), 49);
            Check.due("1", around(0, 0).routeAt(1, 1, 0), 130);
        });
        e.holds("`index`: 0 for the first cell, and so on", () -> {
            Supplier<WireDigs> scene = () -> net(0, 1, -1);
            Refusals.rangeFrom(scene, "routeAt(0, 0, ..)", (x, index) -> x.routeAt(0, 0, index), 0);
            Refusals.rangeFrom(scene, "routeAt(0, 1, ..)", (x, index) -> x.routeAt(0, 1, index), 0);
        });
        e.holds("Returns the number of the cell", () -> {
            Check.due("the first one", net(0, 1, -1).routeAt(0, 0, 0), 1);
            Check.due("the last one", net(0, 1, -1).routeAt(0, 0, 1), 0);
            Check.due("the last one of all", net(80, 71, -1).routeAt(0, 0, 1), 161);
        });
        e.holds("INVALID_ARGUMENT if an argument is out of range or index is negative", () -> {
            Refusals.due(RouteEdges::laidGate, "no such net", c -> c.routeAt(2, 0, 0), INVALID);
            Refusals.due(RouteEdges::laidGate, "digs rather than joined", c -> c.routeAt(0, 2, 0), INVALID);
            Refusals.due(RouteEdges::laidGate, "index rather than joined", c -> c.routeAt(0, 0, -1), INVALID);
            Refusals.due(RouteEdges::cutOff, "digs rather than no route", c -> c.routeAt(1, -1, 0), INVALID);
            Refusals.due(RouteEdges::cutOff, "index rather than no route", c -> c.routeAt(1, 1, -1), INVALID);
        });
        e.holds("NOT_POSSIBLE if the net is joined", () -> {
            Refusals.due(RouteEdges::laidGate, "the first cell", c -> c.routeAt(0, 0, 0), IMPOSSIBLE);
            Refusals.due(RouteEdges::laidGate, "rather than no such cell", c -> c.routeAt(0, 1, 1000), IMPOSSIBLE);
        });
        e.holds("NOT_FOUND if there is no route", () -> {
            Refusals.due(RouteEdges::laidGate, "without digging", c -> c.routeAt(1, 0, 0), MISSING);
            Refusals.due(RouteEdges::cutOff, "with digging", c -> c.routeAt(1, 1, 0), MISSING);
            Refusals.due(RouteEdges::cutOffSecond, "none of the first path alone", c -> c.routeAt(1, 0, 0), MISSING);
        });
        e.holds("or it has not so many cells", () -> {
            Refusals.due(RouteEdges::laidGate, "behind the last one", c -> c.routeAt(1, 1, 15), MISSING);
            Check.due("the last one", laidGate().routeAt(1, 1, 14), 27);
            Refusals.due(RouteEdges::laidGate, "far behind it", c -> c.routeAt(1, 1, Integer.MAX_VALUE), MISSING);
        });
    }

    private static void dueOrder(WireDigs x, int joined, int... order) {
        Check.due("bestOrder(-1)", x.bestOrder(-1), joined);
        for (int index = 0; index < order.length; index++) {
            Check.due("bestOrder(" + index + ")", x.bestOrder(index), order[index]);
        }
        Check.due("bestOrder(end)", x.bestOrder(order.length), MISSING);
    }

    /** Net 0 would take both holes, net 1 and net 2 one each. */
    private static WireDigs greedyFirst() {
        WireDigs x = new WireDigs();
        Scenes.wall(x, 2);
        Scenes.wall(x, 6);
        x.net(36, 44, -1, 0, 0);
        x.net(28, 30, -1, 0, 0);
        x.net(32, 34, -1, 0, 0);
        return x;
    }

    private static void bestOrder(Edges e) {
        e.section("Promise 19: bestOrder");
        e.holds("`int bestOrder(int index)`: Finds the order in which the first three (all, if there are fewer) "
            + "of the nets that are not joined would have to be laid", () -> {
            dueOrder(Scenes.easyNets(0), 0);
            dueOrder(Scenes.easyNets(1), 1, 0);
            dueOrder(Scenes.easyNets(2), 2, 0, 1);
            dueOrder(Scenes.easyNets(3), 3, 0, 1, 2);
            dueOrder(Scenes.easyNets(4), 3, 0, 1, 2);
            dueOrder(Scenes.easyNets(6), 3, 0, 1, 2);
            WireDigs x = Scenes.easyNets(6);
            x.lay(0);
            dueOrder(x, 3, 1, 2, 3);
            x.lay(2);
            x.lay(4);
            dueOrder(x, 3, 1, 3, 5);
            x.lay(1);
            dueOrder(x, 2, 3, 5);
            x.lay(3);
            dueOrder(x, 1, 5);
            x.lay(5);
            dueOrder(x, 0);
        });
        e.holds("one after the other, those being left out that cannot be laid when their turn comes", () -> {
            WireDigs x = Scenes.gate(0, 0, 0, 0);
            x.net(0, 1, -1, 0, 0);
            // Net 1 can't be laid after net 0, but net 2 can.
            dueOrder(x, 2, 0, 1, 2);
            dueOrder(cutOff(), 1, 0, 1);
        });
        e.holds("so that most of them would be joined", () ->
            dueOrder(greedyFirst(), 2, 1, 0, 2));
        e.holds("of several orders the first one, by the number of its first net, then of its second one, and so on.", () -> {
            // 1, 2, 0 and 2, 1, 0 and others join two as well.
            dueOrder(greedyFirst(), 2, 1, 0, 2);
            dueOrder(Scenes.gate(0, 0, 0, 0), 1, 0, 1);
            dueOrder(Scenes.easyNets(3), 3, 0, 1, 2);
            dueOrder(Scenes.cornerNets(3, 2, 0, 11, 2, 10, 9, 1), 0, 0, 1, 2);
            dueOrder(Scenes.cornerNets(3, 4, 29, 20, 18, 2, 28, 0), 3, 0, 2, 1);
            dueOrder(Scenes.cornerNets(4, 3, 19, 12, 9, 3, 0, 1), 3, 1, 0, 2);
            dueOrder(Scenes.cornerNets(3, 4, 27, 10, 2, 11, 1, 20), 3, 1, 2, 0);
            dueOrder(Scenes.cornerNets(3, 4, 28, 20, 1, 9, 18, 11), 3, 2, 0, 1);
            dueOrder(Scenes.cornerNets(3, 4, 1, 11, 0, 28, 27, 29), 3, 2, 1, 0);
        });
        e.holds("`index`: -1: how many would be joined; 0 for the first net of the order, and so on", () -> {
            Refusals.rangeFrom(RouteEdges::greedyFirst, "bestOrder", (x, index) -> x.bestOrder(index), -1);
            Check.due("-1", Scenes.easyNets(3).bestOrder(-1), 3);
            Check.due("0", greedyFirst().bestOrder(0), 1);
            Check.due("2", greedyFirst().bestOrder(2), 2);
        });
        e.holds("Returns the number", () -> {
            Check.due("of none that is left", Scenes.easyNets(0).bestOrder(-1), 0);
            WireDigs x = cutOff();
            x.lay(0);
            Check.due("of none that can be laid", x.bestOrder(-1), 0);
            Check.due("it is in the order all the same", x.bestOrder(0), 1);
        });
        e.holds("INVALID_ARGUMENT if index is below -1", () -> {
            Refusals.due(RouteEdges::greedyFirst, "bestOrder(-2)", c -> c.bestOrder(-2), INVALID);
            Refusals.due(WireDigs::new, "rather than no nets", c -> c.bestOrder(-2), INVALID);
        });
        e.holds("NOT_FOUND if there are not so many nets in the order", () -> {
            Refusals.due(RouteEdges::greedyFirst, "a fourth one", c -> c.bestOrder(3), MISSING);
            Refusals.due(() -> Scenes.easyNets(6), "a fourth one of six", c -> c.bestOrder(3), MISSING);
            Refusals.due(WireDigs::new, "a first one of none", c -> c.bestOrder(0), MISSING);
            Refusals.due(WireDigs::new, "the last int", c -> c.bestOrder(Integer.MAX_VALUE), MISSING);
        });
    }
}
