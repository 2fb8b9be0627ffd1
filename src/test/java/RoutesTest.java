/** The term "Routes", and the promises 15 to 19 that tell about them. */
public final class RoutesTest {
    public static void main(String[] args) {
        steps();
        lowestOfCheapest();
        costOfVia();
        throughOwnPins();
        secondPathOfLaterNet();
        secondPath();
        secondPathFromPinOne();
        costErrors();
        digging();
        diggingOnlyIfCheaper();
        diggingForNothing();
        stubbornness();
        dugOnlyOnce();
        askingChangesNothing();
        bestOrder();
        bestOrderOfTwo();
        bestOrderOfMore();
        eachBestOrder();
        Check.finish();
    }

    private static void steps() {
        WireDigs x = new WireDigs();
        x.net(0, 8, -1, 0, 0);
        x.net(13, 76, -1, 0, 0);
        Check.due("along a row", x.cost(0, 0), 8);
        Scenes.dueRoute(x, 0, 0, 8, 7, 6, 5, 4, 3, 2, 1, 0);
        Check.due("along a column", x.cost(1, 0), 7);
        Scenes.dueRoute(x, 1, 0, 157, 148, 139, 130, 121, 112, 103, 94);
        x.net(17, 18, -1, 0, 0);
        Check.due("from the end of a row to the begin of the next one", x.cost(2, 0), 12);
    }

    private static void lowestOfCheapest() {
        WireDigs x = new WireDigs();
        x.net(0, 10, -1, 0, 0);
        Check.due("corner", x.cost(0, 0), 5);
        Scenes.dueRoute(x, 0, 0, 10, 9, 90, 81);
        x.net(30, 50, -1, 0, 0);
        Check.due("longer corner", x.cost(1, 0), 7);
        Scenes.dueRoute(x, 1, 0, 50, 49, 48, 129, 120, 111);
        x.block(48, 1);
        Scenes.dueRoute(x, 1, 0, 131, 122, 113, 32, 31, 30);
        WireDigs y = new WireDigs();
        // The way around a blocked place goes above it and below it at the same cost.
        y.net(36, 44, -1, 0, 0);
        y.block(40, 1);
        Check.due("around", y.cost(0, 0), 16);
        Scenes.dueRoute(y, 0, 0, 125, 116, 35, 34, 33, 32, 31, 30, 29, 28, 27, 108, 117);
    }

    private static void costOfVia() {
        WireDigs x = new WireDigs();
        x.net(0, 10, -1, 0, 0);
        x.set(0, 1);
        Check.due("cheapest via", x.cost(0, 0), 3);
        x.set(0, 20);
        Check.due("dearest via", x.cost(0, 0), 22);
        Check.due("lay costs the same", x.lay(0), 22);
        Scenes.dueWire(x, 0, 9, 90);
        Check.due("via", x.netOf(0, 7), 1);
    }

    private static void throughOwnPins() {
        WireDigs x = new WireDigs();
        x.net(0, 8, 4, 0, 0);
        Check.due("through pin 2", x.cost(0, 0), 8);
        Scenes.dueRoute(x, 0, 0, 8, 7, 6, 5, 4, 3, 2, 1, 0, 4);
        x.lay(0);
        Scenes.dueWire(x, 0, 1, 2, 3, 5, 6, 7);
        WireDigs y = new WireDigs();
        // The first path has the upper cell of pin 2 only, but both are joined by it.
        y.net(4, 76, 40, 0, 0);
        Check.due("through pin 2 on layer 1", y.cost(0, 0), 8);
        Scenes.dueRoute(y, 0, 0, 157, 148, 139, 130, 121, 112, 103, 94, 85, 40);
    }

    private static void secondPathOfLaterNet() {
        WireDigs x = new WireDigs();
        x.net(0, 1, -1, 0, 0);
        x.net(4, 76, 40, 0, 0);
        Scenes.dueRoute(x, 1, 0, 157, 148, 139, 130, 121, 112, 103, 94, 85, 40);
        Check.due("lay", x.lay(1), 8);
        Scenes.dueWire(x, 1, 94, 103, 112, 130, 139, 148);
    }

    private static void secondPath() {
        WireDigs x = new WireDigs();
        x.net(0, 8, 22, 0, 0);
        Check.due("cost of both", x.cost(0, 0), 13);
        Scenes.dueRoute(x, 0, 0, 8, 7, 6, 5, 4, 3, 2, 1, 0, 103, 94, 85, 4);
        Check.due("lay", x.lay(0), 13);
        Scenes.dueWire(x, 0, 1, 2, 3, 4, 5, 6, 7, 85, 94);
        Check.due("via", x.netOf(0, 7), 1);
        WireDigs y = new WireDigs();
        y.net(0, 8, 80, 0, 0);
        y.block(71, 1);
        y.block(79, 1);
        Check.due("second path missing", y.cost(0, 0), Scenes.MISSING);
        Check.due("first cell of a route with a missing path", y.routeAt(0, 0, 0), Scenes.MISSING);
        Check.due("lay without second path", y.lay(0), Scenes.IMPOSSIBLE);
        Check.due("dig without second path", y.dig(0), Scenes.IMPOSSIBLE);
        Check.due("free cells", y.count(3), 152);
    }

    private static void secondPathFromPinOne() {
        WireDigs x = new WireDigs();
        // The first path begins in the upper cell of pin 1; its lower cell is joined, too.
        x.net(4, 76, 72, 0, 0);
        Check.due("cost", x.cost(0, 0), 12);
        Scenes.dueRoute(x, 0, 0, 157, 148, 139, 130, 121, 112, 103, 94, 85, 72, 73, 74, 75, 76);
    }

    private static void costErrors() {
        WireDigs x = Scenes.gate(2, 100, 1, 20);
        x.lay(0);
        Check.due("cost: no route", x.cost(1, 0), Scenes.MISSING);
        Check.due("routeAt: no route", x.routeAt(1, 0, 0), Scenes.MISSING);
        Check.due("cost: joined", x.cost(0, 0), Scenes.IMPOSSIBLE);
        Check.due("cost: joined, digging", x.cost(0, 1), Scenes.IMPOSSIBLE);
        Check.due("price: joined", x.price(0), Scenes.IMPOSSIBLE);
        Check.due("victims: joined", x.victims(0), Scenes.IMPOSSIBLE);
        Check.due("routeAt: joined", x.routeAt(0, 0, 1000), Scenes.IMPOSSIBLE);
        Check.due("routeAt: index rather than joined", x.routeAt(0, 0, -1), Scenes.INVALID);
        Check.due("routeAt: digs rather than joined", x.routeAt(0, 2, 0), Scenes.INVALID);
        Check.due("cost: digs above", x.cost(1, 2), Scenes.INVALID);
        Check.due("cost: digs below", x.cost(1, -1), Scenes.INVALID);
        Check.due("cost: digs rather than joined", x.cost(0, 2), Scenes.INVALID);
        for (int net = -1; net <= 2; net += 3) {
            Check.due("cost: no such net", x.cost(net, 0), Scenes.INVALID);
            Check.due("price: no such net", x.price(net), Scenes.INVALID);
            Check.due("victims: no such net", x.victims(net), Scenes.INVALID);
            Check.due("routeAt: no such net", x.routeAt(net, 1, 0), Scenes.INVALID);
        }
        x.block(26, 1);
        x.block(34, 1);
        // Net 1's pin 1 (35) has the blocked 26 above, the blocked 34 ahead, and the pin 44 below.
        Check.due("cost: no route with digging", x.cost(1, 1), Scenes.MISSING);
        Check.due("price: no route", x.price(1), Scenes.MISSING);
        Check.due("victims: no route", x.victims(1), Scenes.MISSING);
    }

    private static void digging() {
        WireDigs x = Scenes.gate(2, 100, 1, 20);
        x.lay(0);
        Check.due("cost", x.cost(1, 1), 40);
        Check.due("price", x.price(1), 18);
        Check.due("victims", x.victims(1), 1);
        Scenes.dueRoute(x, 1, 1, 35, 34, 33, 32, 113, 122, 41, 40, 39, 120, 111, 30, 29, 28, 27);
        x.set(1, 50);
        Check.due("price by the settings now", x.price(1), 156);
        Check.due("price does not ask for the purse", x.cost(1, 1), 178);
        WireDigs y = Scenes.twoGates(5, 0, 0);
        y.lay(0);
        y.lay(1);
        Check.due("cost through two nets", y.cost(2, 1), 47);
        Check.due("price of two nets", y.price(2), 39);
        Check.due("two victims", y.victims(2), 3);
    }

    private static void diggingOnlyIfCheaper() {
        WireDigs x = new WireDigs();
        x.net(37, 43, -1, 0, 0);
        x.lay(0);
        // Crossing below the wire of net 0 costs nothing, along it digging may be cheaper.
        x.net(4, 76, -1, 0, 100);
        Check.due("no need to dig", x.price(1), 0);
        Check.due("nobody is dug up", x.victims(1), 0);
        x.net(30, 49, -1, 0, 100);
        Check.due("without digging", x.cost(2, 0), 6);
        x.block(31, 1);
        x.block(48, 1);
        Check.due("longer without digging", x.cost(2, 0), 16);
        x.set(1, 3);
        Check.due("cheaper with digging", x.cost(2, 1), 15);
        Check.due("two cells are dug up", x.price(2), 6);
        x.set(1, 4);
        Check.due("digging is dearer then", x.cost(2, 1), 16);
        Check.due("so nobody is dug up", x.victims(2), 0);
    }

    private static void diggingForNothing() {
        WireDigs x = Scenes.gate(0, 0, 0, 0);
        x.set(1, 0);
        x.lay(0);
        Check.due("price of nothing", x.price(1), 0);
        Check.due("still a victim", x.victims(1), 1);
        Check.due("cost", x.cost(1, 1), 22);
        Check.due("dig", x.dig(1), 0);
        Check.due("dug up", x.netOf(0, 8), 1);
        Check.due("claim", x.count(4), 1);
    }

    private static void stubbornness() {
        WireDigs x = Scenes.gate(9, 0, 0, 0);
        x.set(1, 0);
        x.lay(0);
        Check.due("the stubbornness of the other net alone", x.price(1), 27);
        WireDigs y = Scenes.gate(0, 0, 9, 0);
        y.set(1, 0);
        y.lay(0);
        Check.due("not that of the digging net", y.price(1), 0);
    }

    private static void dugOnlyOnce() {
        WireDigs x = new WireDigs();
        Scenes.wall(x, 2);
        x.set(1, 1);
        x.net(28, 30, -1, 0, 0);
        x.net(36, 44, 57, 0, 9);
        Check.due("lay", x.lay(0), 10);
        Scenes.dueWire(x, 0, 37, 38, 39, 118, 120);
        // The second path ends in cell 39, which the first one has dug up already.
        Check.due("cost", x.cost(1, 1), 17);
        Check.due("price", x.price(1), 4);
        Scenes.dueRoute(x, 1, 1, 44, 43, 42, 41, 40, 39, 38, 37, 36, 138, 129, 120, 39);
        Check.due("dig", x.dig(1), 4);
        Scenes.dueNet(x, 1, 5, 1, 0, 4, 0);
        Scenes.dueNet(x, 0, 4, 0, 1, 0, 4);
        Scenes.dueWire(x, 1, 37, 38, 39, 40, 41, 42, 43, 120, 129);
        Scenes.dueClaim(x, 0, 0, 1, 5, 2, 4, 36, 0, 0);
    }

    private static void askingChangesNothing() {
        WireDigs x = Scenes.gate(2, 100, 1, 20);
        x.lay(0);
        x.cost(1, 1);
        x.price(1);
        x.victims(1);
        x.routeAt(1, 1, 3);
        x.bestOrder(-1);
        Check.due("acts", x.count(6), 1);
        Check.due("joined", x.count(1), 1);
        Check.due("cells of wires", x.count(8), 7);
        Check.due("coins", x.count(7), 120);
        x.undo();
        Check.due("what is undone is the lay", x.netOf(0, 5), 0);
    }

    private static void bestOrder() {
        WireDigs x = new WireDigs();
        Check.due("no nets", x.bestOrder(-1), 0);
        Check.due("first of no nets", x.bestOrder(0), Scenes.MISSING);
        Check.due("index below", x.bestOrder(-2), Scenes.INVALID);
        Check.due("index least", x.bestOrder(Integer.MIN_VALUE), Scenes.INVALID);
        Scenes.wall(x, 2);
        Scenes.wall(x, 6);
        x.net(36, 44, -1, 0, 0);
        x.net(28, 30, -1, 0, 0);
        x.net(32, 34, -1, 0, 0);
        // Net 0 would take both holes; with net 1 first it is left out.
        Check.due("most", x.bestOrder(-1), 2);
        Check.due("first", x.bestOrder(0), 1);
        Check.due("second", x.bestOrder(1), 0);
        Check.due("third", x.bestOrder(2), 2);
        Check.due("no fourth", x.bestOrder(3), Scenes.MISSING);
        Check.due("far above", x.bestOrder(Integer.MAX_VALUE), Scenes.MISSING);
    }

    private static void bestOrderOfTwo() {
        WireDigs x = Scenes.gate(0, 0, 0, 0);
        Check.due("either", x.bestOrder(-1), 1);
        Check.due("the first order", x.bestOrder(0), 0);
        Check.due("its second net", x.bestOrder(1), 1);
        Check.due("no third", x.bestOrder(2), Scenes.MISSING);
        x.lay(0);
        Check.due("none can be laid", x.bestOrder(-1), 0);
        Check.due("the one that is left", x.bestOrder(0), 1);
        Check.due("the joined one is not in it", x.bestOrder(1), Scenes.MISSING);
    }

    private static void bestOrderOfMore() {
        WireDigs x = new WireDigs();
        x.net(0, 1, -1, 0, 0);
        x.net(9, 10, -1, 0, 0);
        x.net(18, 19, -1, 0, 0);
        x.net(27, 28, -1, 0, 0);
        x.net(36, 37, -1, 0, 0);
        Check.due("three of five", x.bestOrder(-1), 3);
        Check.due("no fourth", x.bestOrder(3), Scenes.MISSING);
        x.lay(1);
        Check.due("the first three that are not joined", x.bestOrder(2), 3);
        Check.due("the second of them", x.bestOrder(1), 2);
        x.lay(0);
        x.lay(3);
        Check.due("two are left", x.bestOrder(-1), 2);
        Check.due("the second one", x.bestOrder(1), 4);
    }

    private static void eachBestOrder() {
        dueBestOrder(Scenes.cornerNets(3, 2, 0, 11, 2, 10, 9, 1), 0, 0, 1, 2);
        dueBestOrder(Scenes.cornerNets(3, 2, 11, 2, 9, 1, 10, 0), 1, 0, 1, 2);
        dueBestOrder(Scenes.cornerNets(3, 2, 2, 1, 11, 0, 9, 10), 2, 0, 1, 2);
        dueBestOrder(Scenes.cornerNets(3, 2, 10, 9, 2, 11, 1, 0), 3, 0, 1, 2);
        dueBestOrder(Scenes.cornerNets(3, 3, 20, 18, 1, 9, 2, 19), 2, 0, 2, 1);
        dueBestOrder(Scenes.cornerNets(3, 4, 29, 20, 18, 2, 28, 0), 3, 0, 2, 1);
        dueBestOrder(Scenes.cornerNets(3, 3, 1, 9, 11, 19, 18, 20), 2, 1, 0, 2);
        dueBestOrder(Scenes.cornerNets(4, 3, 19, 12, 9, 3, 0, 1), 3, 1, 0, 2);
        dueBestOrder(Scenes.cornerNets(3, 3, 19, 9, 0, 2, 1, 11), 2, 1, 2, 0);
        dueBestOrder(Scenes.cornerNets(3, 4, 27, 10, 2, 11, 1, 20), 3, 1, 2, 0);
        dueBestOrder(Scenes.cornerNets(3, 4, 29, 0, 28, 11, 2, 9), 2, 2, 0, 1);
        dueBestOrder(Scenes.cornerNets(3, 4, 28, 20, 1, 9, 18, 11), 3, 2, 0, 1);
        dueBestOrder(Scenes.cornerNets(3, 4, 1, 11, 0, 28, 27, 29), 3, 2, 1, 0);
    }

    private static void dueBestOrder(WireDigs x, int most, int first, int second, int third) {
        Check.due("bestOrder(-1)", x.bestOrder(-1), most);
        Check.due("bestOrder(0)", x.bestOrder(0), first);
        Check.due("bestOrder(1)", x.bestOrder(1), second);
        Check.due("bestOrder(2)", x.bestOrder(2), third);
        int best = 100 * first + 10 * second + third;
        for (int code = 0; code < 27; code++) {
            int a = code / 9;
            int b = code / 3 % 3;
            int c = code % 3;
            if (a != b && b != c && a != c) {
                int joined = joinedByLaying(x, a, b, c);
                int order = 100 * a + 10 * b + c;
                Check.dueThat("no better order than " + best + ", but " + order + " joins " + joined,
                    order < best ? joined < most : joined <= most);
                Check.dueThat("the order joins as many as told", order != best || joined == most);
            }
        }
    }

    private static int joinedByLaying(WireDigs x, int... order) {
        int joined = 0;
        for (int net : order) {
            joined += x.lay(net) >= 0 ? 1 : 0;
        }
        for (int i = 0; i < joined; i++) {
            x.undo();
        }
        return joined;
    }
}
