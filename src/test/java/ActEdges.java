import java.util.function.Supplier;

/** Sentences of the term Claims, and of the promises 9 to 14 and 20 to 22. */
final class ActEdges {
    private static final int INVALID = Scenes.INVALID;
    private static final int IMPOSSIBLE = Scenes.IMPOSSIBLE;
    private static final int LIMIT = Scenes.LIMIT;
    private static final int MISSING = Scenes.MISSING;

    private ActEdges() {
    }

    static void all(Edges e) {
        e.section("Claims");
        claims(e);
        appeals(e);
        hearings(e);
        shortHearings(e);
        lay(e);
        dig(e);
        rip(e);
        appeal(e);
        hear(e);
        pass(e);
        claimOf(e);
        docketAt(e);
        wronged(e);
    }

    /** Net 0 has lost 7 cells to net 1 for 18 coins; net 1 has 2 coins left. */
    private static WireDigs dug() {
        return Scenes.dugGate(2, 100, 20);
    }

    private static WireDigs appealed(int purse1) {
        WireDigs x = Scenes.dugGate(2, 100, purse1);
        x.appeal(0);
        return x;
    }

    /** So many claims, and net 2, which would dig up two nets more. */
    private static WireDigs claimsAndTwoMore(int claims) {
        WireDigs x = Scenes.twoGates(0, 0, 0);
        x.set(1, 0);
        x.lay(0);
        x.lay(1);
        x.net(46, 48, -1, 0, 0);
        for (int claim = 0; claim < claims; claim++) {
            Check.due("digging " + claim, x.dig(claim % 2 == 0 ? 3 : 0), 0);
        }
        return x;
    }

    private static void claims(Edges e) {
        e.holds("At most 12 claims are there", () -> {
            Check.due("a twelfth one", Scenes.claims(11).dig(0), 0);
            Refusals.due(() -> Scenes.claims(12), "a thirteenth one", c -> c.dig(1), LIMIT);
            Check.due("an eleventh and a twelfth one", claimsAndTwoMore(10).dig(2), 0);
            Refusals.due(() -> claimsAndTwoMore(11), "a twelfth and a thirteenth one", c -> c.dig(2), LIMIT);
        });
        e.holds("numbered from 0 in the order in which they came", () -> {
            WireDigs x = Scenes.claims(12);
            for (int claim = 0; claim < 12; claim++) {
                Check.due("who has claim " + claim, x.claimOf(claim, 0), claim % 2);
                Check.due("acts since claim " + claim, x.claimOf(claim, 7), 11 - claim);
            }
            Check.due("none behind the last one", x.claimOf(12, 0), INVALID);
            WireDigs y = Scenes.claims(3);
            y.undo();
            Check.due("none after its digging was undone", y.claimOf(2, 0), INVALID);
            y.dig(1);
            Check.due("the same number again", y.claimOf(2, 0), 0);
        });
        e.holds("claims of one digging come by the numbers of the nets.", () -> {
            // Seen from its pin 1, net 2 comes to net 1 first, and then to net 0.
            WireDigs x = Scenes.twoGates(0, 0, 24);
            x.lay(1);
            x.lay(0);
            x.dig(2);
            Check.due("claim 0", x.claimOf(0, 0), 0);
            Check.due("claim 1", x.claimOf(1, 0), 1);
        });
        e.holds("A claim is open, appealed, or settled.", () -> {
            WireDigs x = dug();
            Check.due("open", x.claimOf(0, 6), 0);
            x.appeal(0);
            Check.due("appealed", x.claimOf(0, 6), 1);
            x.hear();
            Check.due("settled", x.claimOf(0, 6), 2);
        });
        e.holds("The loss of a claim is the rate times its cells plus the cost of a via times its vias, by the settings as they are now.", () -> {
            WireDigs x = Scenes.claims(2);
            Check.due("7 cells", x.claimOf(0, 5), 7 * 6);
            Check.due("13 cells and 4 vias", x.claimOf(1, 5), 13 * 6 + 4 * 3);
            x.set(2, 0);
            x.set(0, 1);
            Check.due("no rate, no vias", x.claimOf(0, 5), 0);
            Check.due("vias alone", x.claimOf(1, 5), 4);
            x.set(2, 50);
            x.set(0, 20);
            Check.due("all at the most", x.claimOf(1, 5), 13 * 50 + 4 * 20);
        });
    }

    private static void appeals(Edges e) {
        e.holds("An open claim can be appealed, as long as no more acts than the patience have gone by since the digging.", () -> {
            WireDigs x = dug();
            x.pass(6);
            Check.due("as many as the patience", x.appeal(0), 1);
            Refusals.due(() -> dugAndPassed(7), "one more", c -> c.appeal(0), IMPOSSIBLE);
            WireDigs y = dugAndPassed(7);
            y.set(3, 7);
            Check.due("by the patience as it is now", y.appeal(0), 1);
        });
        e.holds("(An act is each call of lay, dig, rip, appeal, hear and pass that returns no error", ActEdges::acts);
        e.holds("the digging itself is not counted.)", () -> {
            WireDigs x = dug();
            Check.due("acts since the digging", x.claimOf(0, 7), 0);
            x.set(3, 1);
            x.pass(1);
            Check.due("with a patience of 1", x.appeal(0), 1);
        });
    }

    private static WireDigs dugAndPassed(int acts) {
        WireDigs x = dug();
        x.pass(acts);
        return x;
    }

    private static void acts() {
        WireDigs x = Scenes.gate(2, 100, 1, 20);
        Check.due("blocks and nets", x.count(6), 0);
        x.lay(0);
        Check.due("lay", x.count(6), 1);
        x.dig(1);
        Check.due("dig", x.count(6), 2);
        x.appeal(0);
        Check.due("appeal", x.count(6), 3);
        x.hear();
        Check.due("hear", x.count(6), 4);
        x.rip(0);
        Check.due("rip", x.count(6), 5);
        x.pass(1);
        Check.due("pass", x.count(6), 6);
        x.rip(0);
        x.rip(6);
        x.lay(9);
        x.dig(9);
        x.appeal(0);
        x.appeal(1);
        x.hear();
        x.pass(0);
        Check.due("errors", x.count(6), 6);
        x.set(0, 5);
        x.give(0, 5);
        x.block(0, 1);
        Scenes.typeAll(x, "w1;");
        x.fault(0);
        x.clearText();
        x.play();
        x.bestOrder(-1);
        Check.due("calls that are no acts", x.count(6), 6);
    }

    private static void hearings(Edges e) {
        e.holds("Appeals are heard one by one", () -> {
            WireDigs x = appealedTwo();
            x.hear();
            Check.due("one is left", x.count(5), 1);
            x.hear();
            Check.due("none is left", x.count(5), 0);
            Check.due("no third hearing", x.hear(), IMPOSSIBLE);
        });
        e.holds("the one with the greatest loss first", () -> {
            WireDigs x = Scenes.claims(2);
            x.appeal(0);
            x.appeal(1);
            x.hear();
            Check.due("the greater one", x.claimOf(1, 6), 2);
            Check.due("the smaller one", x.claimOf(0, 6), 1);
        });
        e.holds("of several the one with the lowest number.", () -> {
            WireDigs x = appealedTwo();
            Check.due("equal losses", x.claimOf(0, 5), x.claimOf(2, 5));
            x.hear();
            Check.due("the lower number", x.claimOf(0, 6), 2);
            Check.due("the higher number", x.claimOf(2, 6), 1);
        });
        e.holds("The due is the loss minus what was paid.", () -> {
            WireDigs x = appealed(100);
            Check.due("42 - 18", x.hear(), 24);
            Check.due("its purse", x.netOf(1, 4), 58);
        });
        e.holds("If it is above 0, the digging net pays it", () -> {
            // Three cells were paid for the price and 2, seven were lost: 21 and 21, 15 and 14, 6 and 7.
            dueHearing(5, 3, 21, 0, "a due of 0");
            dueHearing(3, 2, 15, 0, "a due of -1");
            dueHearing(0, 1, 7, 1, "a due of 1");
        });
        e.holds("as far as its purse goes.", () -> {
            Check.due("it goes just as far", appealed(42).hear(), 24);
            Check.due("one coin short", appealed(41).hear(), 23);
            Check.due("empty", appealed(18).hear(), 0);
            WireDigs x = appealed(41);
            x.hear();
            Check.due("nothing is left", x.netOf(1, 4), 0);
            Check.due("the other one's purse", x.netOf(0, 4), 100 + 18 + 23);
        });
    }

    /** Claims 0 and 2 of the same loss, the later one appealed first. */
    private static WireDigs appealedTwo() {
        WireDigs x = Scenes.claims(3);
        x.appeal(2);
        x.appeal(0);
        return x;
    }

    private static void dueHearing(int price, int rate, int purse1, int pays, String what) {
        WireDigs x = Scenes.gate(2, 0, 1, purse1);
        x.set(1, price);
        x.set(2, rate);
        x.lay(0);
        int paid = x.dig(1);
        x.appeal(0);
        Check.due(what, x.hear(), pays);
        Check.due(what + ", in its purse then", x.netOf(1, 4), purse1 - paid - pays);
        Check.due(what + ", in the other one's purse then", x.netOf(0, 4), paid + pays);
        Check.due(what + ", joined then", x.netOf(1, 5), 1);
        Check.due(what + ", the other one then", x.netOf(0, 5), 0);
        Check.due(what + ", settled then", x.claimOf(0, 6), 2);
    }

    private static void shortHearings(Edges e) {
        e.holds("If it cannot pay all of it, it loses its wire, if it is joined, and is not joined any more", () -> {
            WireDigs x = appealed(41);
            x.hear();
            Check.due("one coin short", x.netOf(1, 5), 0);
            Scenes.dueWire(x, 1);
            WireDigs y = appealed(42);
            y.hear();
            Check.due("paid in full", y.netOf(1, 6), 13);
            WireDigs z = Scenes.dugGate(2, 100, 41);
            z.rip(1);
            z.appeal(0);
            Check.due("one that is not joined", z.hear(), 23);
            Check.due("has none to lose", z.netOf(1, 5), 0);
        });
        e.holds("(nobody has a claim for that)", () -> {
            WireDigs x = appealed(41);
            x.hear();
            Check.due("claims", x.count(4), 1);
            Check.due("it was not dug up", x.netOf(1, 8), 0);
        });
        e.holds("and if then (only in this case)", () -> {
            WireDigs x = Scenes.dugGate(2, 100, 42);
            x.rip(1);
            x.appeal(0);
            x.hear();
            Check.due("paid in full: the wire stays away, though its cells are free", x.netOf(0, 5), 0);
            WireDigs y = Scenes.dugGate(2, 100, 18);
            y.rip(1);
            y.appeal(0);
            y.set(2, 2);
            y.hear();
            Check.due("nothing due: it stays away, too", y.netOf(0, 5), 0);
        });
        e.holds("the net of the claim is not joined", () -> {
            WireDigs x = Scenes.dugGate(2, 100, 41);
            x.block(49, 0);
            Check.due("net 0 finds another way", x.lay(0), 16);
            x.appeal(0);
            x.hear();
            Check.due("net 1 loses its wire", x.netOf(1, 5), 0);
            Check.due("net 0 keeps its new one", x.netOf(0, 6), 11);
            Check.due("what it had is free", x.cellOf(40), MISSING);
        });
        e.holds("and all cells of the wire that it had are free", () -> {
            dueStaysAway("the first one blocked", x -> x.block(37, 1));
            dueStaysAway("the last one blocked", x -> x.block(43, 1));
            dueStaysAway("one of a pin", x -> x.net(42, 78, -1, 0, 0));
            dueStaysAway("one of a wire", x -> {
                x.rip(1);
                x.block(47, 1);
                x.net(46, 48, -1, 0, 0);
                x.lay(2);
                Check.due("a cell that it had", x.cellOf(37), 2);
            });
            WireDigs x = Scenes.dugGate(2, 100, 41);
            x.block(46, 1);
            x.appeal(0);
            x.hear();
            Check.due("a cell next to them blocked", x.netOf(0, 6), 7);
        });
        e.holds("it has this wire again and is joined.", () -> {
            WireDigs x = appealed(41);
            x.hear();
            Scenes.dueWire(x, 0, 37, 38, 39, 40, 41, 42, 43);
            Check.due("joined", x.netOf(0, 5), 1);
            Check.due("no claim is wronged any more", x.wronged(), 0);
            WireDigs y = Scenes.claims(3);
            y.appeal(0);
            y.hear();
            Check.due("also of an earlier claim to the same cells", y.netOf(0, 6), 7);
            WireDigs z = Scenes.dugCorners();
            Scenes.dueClaim(z, 0, 0, 1, 6, 1, 24);
            Scenes.dueClaim(z, 1, 2, 3, 6, 1, 24);
            z.appeal(0);
            z.appeal(1);
            z.hear();
            z.hear();
            Scenes.dueWire(z, 0, 0, 1, 2, 81, 90, 99);
            Scenes.dueWire(z, 2, 78, 79, 80, 143, 152, 161);
            Check.due("the other nets have no cell any more", z.count(8), 12);
        });
        e.holds("The claim is settled then, with what was paid in all.", () -> {
            WireDigs x = appealed(100);
            x.hear();
            Check.due("paid in full", x.claimOf(0, 4), 42);
            Check.due("settled", x.claimOf(0, 6), 2);
            WireDigs y = appealed(41);
            y.hear();
            Check.due("paid in part", y.claimOf(0, 4), 41);
            Check.due("settled, too", y.claimOf(0, 6), 2);
        });
    }

    private interface Change {
        void on(WireDigs x);
    }

    private static void dueStaysAway(String what, Change change) {
        WireDigs x = Scenes.dugGate(2, 100, 41);
        change.on(x);
        x.appeal(0);
        x.hear();
        Check.due(what + ": net 1 loses its wire", x.netOf(1, 5), 0);
        Check.due(what + ": net 0 stays as it is", x.netOf(0, 5), 0);
        Check.due(what + ": it has no cell", x.netOf(0, 6), 0);
        Check.due(what + ": settled all the same", x.claimOf(0, 6), 2);
    }

    private static void lay(Edges e) {
        Supplier<WireDigs> laid = () -> Scenes.laidGate(2, 100, 20);
        e.section("Promise 9: lay");
        e.holds("`int lay(int net)`: Lays a net.", () -> {
            Check.due("joined", laid.get().netOf(0, 5), 1);
            Check.due("it pays nothing", laid.get().netOf(0, 4), 100);
        });
        e.holds("`net`: number of the net", () ->
            Refusals.range(laid, "lay", (x, net) -> x.lay(net), 0, 1));
        e.holds("Returns the cost of its route", () -> {
            Check.due("a straight one", Scenes.gate(2, 100, 1, 20).lay(0), 8);
            Check.due("one with vias", Scenes.gate(2, 100, 1, 20).lay(1), 22);
        });
        e.holds("INVALID_ARGUMENT", () -> {
            Refusals.due(laid, "behind the last net", c -> c.lay(2), INVALID);
            Refusals.due(WireDigs::new, "no net at all", c -> c.lay(0), INVALID);
        });
        e.holds("NOT_POSSIBLE if it is joined", () ->
            Refusals.due(laid, "joined", c -> c.lay(0), IMPOSSIBLE));
        e.holds("or there is no route without digging", () ->
            Refusals.due(laid, "no route without digging", c -> c.lay(1), IMPOSSIBLE));
    }

    private static void dig(Edges e) {
        Supplier<WireDigs> closed = () -> {
            WireDigs x = dug();
            x.rip(1);
            x.block(40, 1);
            return x;
        };
        Supplier<WireDigs> poor = () -> Scenes.laidGate(2, 100, 17);
        e.section("Promise 10: dig");
        e.holds("`int dig(int net)`: Digs for a net.", () -> {
            Check.due("joined", dug().netOf(1, 5), 1);
            Check.due("dug up", dug().netOf(0, 5), 0);
        });
        e.holds("`net`: number of the net", () ->
            Refusals.range(ActEdges::dug, "dig", (x, net) -> x.dig(net), 0, 1));
        e.holds("Returns what it pays in all", () -> {
            Check.due("to one net", dug().dig(0), 15);
            WireDigs x = Scenes.twoGates(5, 0, 50);
            x.lay(0);
            x.lay(1);
            Check.due("to two nets", x.dig(2), 27 + 12);
            Check.due("to nobody", Scenes.gate(2, 0, 1, 0).dig(0), 0);
        });
        e.holds("INVALID_ARGUMENT", () -> {
            Refusals.due(ActEdges::dug, "behind the last net", c -> c.dig(2), INVALID);
            Refusals.due(WireDigs::new, "no net at all", c -> c.dig(0), INVALID);
            Refusals.due(() -> Scenes.claims(12), "rather than the limit", c -> c.dig(2), INVALID);
        });
        e.holds("NOT_POSSIBLE if it is joined", () -> {
            Refusals.due(ActEdges::dug, "joined", c -> c.dig(1), IMPOSSIBLE);
            Refusals.due(() -> Scenes.claims(12), "rather than the limit", c -> c.dig(0), IMPOSSIBLE);
        });
        e.holds("there is no route", () ->
            Refusals.due(closed, "no route", c -> c.dig(1), IMPOSSIBLE));
        e.holds("or its purse does not do", () -> {
            Refusals.due(poor, "one coin too few", c -> c.dig(1), IMPOSSIBLE);
            WireDigs x = poor.get();
            x.give(1, 1);
            Check.due("just as many coins", x.dig(1), 18);
            Refusals.due(ActEdges::fullAndPoor, "rather than the limit", c -> c.dig(1), IMPOSSIBLE);
        });
        e.holds("LIMIT_REACHED if there would be more than 12 claims", () -> {
            Refusals.due(() -> Scenes.claims(12), "a thirteenth one", c -> c.dig(1), LIMIT);
            WireDigs x = Scenes.claims(12);
            x.rip(0);
            Check.due("a digging that makes no claim", x.dig(1), 0);
            Check.due("claims", x.count(4), 12);
        });
    }

    private static WireDigs fullAndPoor() {
        WireDigs x = Scenes.claims(12);
        x.set(1, 1);
        return x;
    }

    private static void rip(Edges e) {
        e.section("Promise 11: rip");
        e.holds("`int rip(int net)`: Rips a net up by itself: it loses its wire, and is not joined any more.", () -> {
            WireDigs x = dug();
            x.rip(1);
            Scenes.dueWire(x, 1);
            Check.due("not joined", x.netOf(1, 5), 0);
            Check.due("not dug up", x.netOf(1, 8), 0);
            Check.due("no claim for that", x.count(4), 1);
        });
        e.holds("`net`: number of the net", () ->
            Refusals.range(ActEdges::dug, "rip", (x, net) -> x.rip(net), 0, 1));
        e.holds("Returns how many cells its wire had", () -> {
            Check.due("13", dug().rip(1), 13);
            WireDigs x = new WireDigs();
            x.net(0, 1, -1, 0, 0);
            x.lay(0);
            Check.due("none", x.rip(0), 0);
        });
        e.holds("INVALID_ARGUMENT", () -> {
            Refusals.due(ActEdges::dug, "behind the last net", c -> c.rip(2), INVALID);
            Refusals.due(WireDigs::new, "no net at all", c -> c.rip(0), INVALID);
        });
        e.holds("NOT_POSSIBLE if it is not joined", () ->
            Refusals.due(ActEdges::dug, "not joined", c -> c.rip(0), IMPOSSIBLE));
    }

    private static void appeal(Edges e) {
        e.section("Promise 12: appeal");
        e.holds("`int appeal(int claim)`: Appeals a claim.", () ->
            Check.due("its state", appealed(20).claimOf(0, 6), 1));
        e.holds("`claim`: number of the claim", () -> {
            Supplier<WireDigs> full = () -> {
                WireDigs x = Scenes.claims(12);
                x.set(3, 20);
                return x;
            };
            Refusals.range(full, "appeal", (x, claim) -> x.appeal(claim), 0, 11);
            Check.due("the first of twelve", full.get().appeal(0), 1);
            Check.due("the last of twelve", full.get().appeal(11), 1);
        });
        e.holds("Returns how many appeals are to be heard then", () -> {
            WireDigs x = Scenes.claims(3);
            Check.due("one", x.appeal(1), 1);
            Check.due("two", x.appeal(0), 2);
            x.hear();
            Check.due("two again", x.appeal(2), 2);
        });
        e.holds("INVALID_ARGUMENT", () -> {
            Refusals.due(ActEdges::dug, "behind the last claim", c -> c.appeal(1), INVALID);
            Refusals.due(WireDigs::new, "no claim at all", c -> c.appeal(0), INVALID);
        });
        e.holds("NOT_POSSIBLE if it is not open", () -> {
            Refusals.due(() -> appealed(20), "appealed", c -> c.appeal(0), IMPOSSIBLE);
            Refusals.due(ActEdges::heard, "settled", c -> c.appeal(0), IMPOSSIBLE);
        });
        e.holds("or too many acts have gone by", () -> {
            Check.due("just not too many", dugAndPassed(6).appeal(0), 1);
            Refusals.due(() -> dugAndPassed(7), "one too many", c -> c.appeal(0), IMPOSSIBLE);
            Refusals.due(() -> dugAndPassed(50), "far too many", c -> c.appeal(0), IMPOSSIBLE);
        });
    }

    private static WireDigs heard() {
        WireDigs x = appealed(20);
        x.hear();
        return x;
    }

    private static void hear(Edges e) {
        e.section("Promise 13: hear");
        e.holds("`int hear()`: Hears the first appeal.", () -> {
            WireDigs x = appealedTwo();
            int first = x.docketAt(0);
            x.hear();
            Check.due("its state", x.claimOf(first, 6), 2);
        });
        e.holds("Returns what the digging net pays by it", () -> {
            Check.due("all of the due", appealed(42).hear(), 24);
            Check.due("a part of it", appealed(19).hear(), 1);
            Check.due("nothing", appealed(18).hear(), 0);
        });
        e.holds("NOT_POSSIBLE if there is no appeal", () -> {
            Refusals.due(ActEdges::dug, "an open claim alone", c -> c.hear(), IMPOSSIBLE);
            Refusals.due(ActEdges::heard, "a settled claim alone", c -> c.hear(), IMPOSSIBLE);
            Refusals.due(WireDigs::new, "no claim at all", c -> c.hear(), IMPOSSIBLE);
        });
    }

    /** A play of 15 passes is one call, so that the limit comes before the 512th. */
    private static WireDigs acts(int acts) {
        WireDigs x = new WireDigs();
        x.net(0, 1, -1, 0, 0);
        Scenes.typeAll(x, "w50;w50;w50;w50;w50;w50;w50;w50;w50;w50;w50;w50;w50;w50;w50;");
        int had = 0;
        for (; had + 750 <= acts; had += 750) {
            x.play();
        }
        for (; had < acts; had += Math.min(50, acts - had)) {
            x.pass(Math.min(50, acts - had));
        }
        return x;
    }

    private static void pass(Edges e) {
        e.section("Promise 14: pass");
        e.holds("`int pass(int acts)`: Lets acts go by: as many as told, the call is none besides them.", () -> {
            WireDigs x = dug();
            x.pass(1);
            Check.due("one", x.claimOf(0, 7), 1);
            x.pass(50);
            Check.due("fifty more", x.claimOf(0, 7), 51);
        });
        e.holds("`acts`: 1 to 50", () ->
            Refusals.range(ActEdges::dug, "pass", (x, acts) -> x.pass(acts), 1, 50));
        e.holds("Returns how many acts there have been then", () -> {
            Check.due("the least", new WireDigs().pass(1), 1);
            Check.due("the most", new WireDigs().pass(50), 50);
            Check.due("with those before", dug().pass(3), 5);
        });
        e.holds("INVALID_ARGUMENT if acts is out of range", () -> {
            Refusals.due(() -> acts(100000), "none rather than the limit", c -> c.pass(0), INVALID);
            Refusals.due(() -> acts(100000), "too many rather than the limit", c -> c.pass(51), INVALID);
        });
        e.holds("LIMIT_REACHED if there would be more than 100000", () -> {
            Check.due("the last one", acts(99999).pass(1), 100000);
            Check.due("the last fifty", acts(99950).pass(50), 100000);
            Refusals.due(() -> acts(100000), "one more", c -> c.pass(1), LIMIT);
            Refusals.due(() -> acts(99951), "one too many of fifty", c -> c.pass(50), LIMIT);
            WireDigs x = acts(100000);
            Check.due("no other act has this limit", x.lay(0), 1);
            Check.due("acts", x.count(6), 100001);
        });
    }

    private static void claimOf(Edges e) {
        e.section("Promise 20: claimOf");
        e.holds("`int claimOf(int claim, int what)`: Returns something of a claim.", () -> {
            Check.due("of the first one", Scenes.claims(12).claimOf(0, 2), 7);
            Check.due("of the last one", Scenes.claims(12).claimOf(11, 2), 13);
        });
        e.holds("`claim`: number of the claim", () -> {
            Refusals.range(ActEdges::dug, "claimOf(.., 0)", (x, claim) -> x.claimOf(claim, 0), 0, 0);
            Refusals.range(() -> Scenes.claims(12), "claimOf(.., 7)", (x, claim) -> x.claimOf(claim, 7), 0, 11);
        });
        e.holds("`what`: 0: the net that has it; 1: the net that dug; 2: the cells that were lost; 3: the vias", () -> {
            Refusals.range(ActEdges::dug, "claimOf(0, ..)", (x, what) -> x.claimOf(0, what), 0, 7);
            Scenes.dueClaim(Scenes.claims(2), 0, 0, 1, 7, 0);
            Scenes.dueClaim(Scenes.claims(2), 1, 1, 0, 13, 4);
        });
        e.holds("4: what was paid so far", () -> {
            Check.due("nothing", Scenes.claims(1).claimOf(0, 4), 0);
            Check.due("by the digging", dug().claimOf(0, 4), 18);
            Check.due("by the hearing, too", heard().claimOf(0, 4), 20);
        });
        e.holds("5: its loss", () -> {
            Check.due("whatever was paid", dug().claimOf(0, 5), 42);
            Check.due("also when it is settled", heard().claimOf(0, 5), 42);
        });
        e.holds("6: 0 if it is open, 1 if it is appealed, 2 if it is settled", () -> {
            Check.due("open", dug().claimOf(0, 6), 0);
            Check.due("open, though it is too late", dugAndPassed(50).claimOf(0, 6), 0);
            Check.due("appealed", appealed(20).claimOf(0, 6), 1);
            Check.due("settled", heard().claimOf(0, 6), 2);
        });
        e.holds("7: the acts that have gone by since the digging", () -> {
            Check.due("none", dug().claimOf(0, 7), 0);
            Check.due("one", dugAndPassed(1).claimOf(0, 7), 1);
            Check.due("the appeal and the hearing", heard().claimOf(0, 7), 2);
        });
        e.holds("Returns the number", () ->
            Scenes.dueClaim(heard(), 0, 0, 1, 7, 0, 20, 42, 2, 2));
        e.holds("INVALID_ARGUMENT if an argument is out of range", () -> {
            Refusals.due(ActEdges::dug, "behind the last claim", c -> c.claimOf(1, 0), INVALID);
            Refusals.due(ActEdges::dug, "nothing of that number", c -> c.claimOf(0, 8), INVALID);
            Refusals.due(() -> Scenes.claims(12), "behind the last that can be", c -> c.claimOf(12, 0), INVALID);
            Refusals.due(WireDigs::new, "no claim at all", c -> c.claimOf(0, 0), INVALID);
        });
    }

    private static void docketAt(Edges e) {
        e.section("Promise 21: docketAt");
        e.holds("`int docketAt(int index)`: Returns the claim whose appeal is heard next, or later.", () -> {
            WireDigs x = Scenes.claims(4);
            x.set(3, 20);
            for (int claim = 0; claim < 4; claim++) {
                x.appeal(claim);
            }
            // 1 and 3 are for 13 cells and 4 vias, 0 and 2 for 7 cells.
            int[] docket = {1, 3, 0, 2};
            for (int index = 0; index < 4; index++) {
                Check.due("docketAt(" + index + ")", x.docketAt(index), docket[index]);
            }
            x.set(0, 1);
            x.set(2, 0);
            Check.due("the vias alone decide", x.docketAt(0), 1);
            Check.due("nothing decides but the number", x.docketAt(2), 0);
        });
        e.holds("`index`: 0 for the next one, and so on", () ->
            Refusals.rangeFrom(ActEdges::appealedTwo, "docketAt", (x, index) -> x.docketAt(index), 0));
        e.holds("Returns the number of the claim", () -> {
            WireDigs x = Scenes.claims(12);
            x.appeal(11);
            Check.due("the last one", x.docketAt(0), 11);
        });
        e.holds("INVALID_ARGUMENT if index is negative", () -> {
            Refusals.due(ActEdges::appealedTwo, "docketAt(-1)", c -> c.docketAt(-1), INVALID);
            Refusals.due(WireDigs::new, "rather than none", c -> c.docketAt(-1), INVALID);
        });
        e.holds("NOT_FOUND if there are not so many", () -> {
            Refusals.due(ActEdges::appealedTwo, "a third one", c -> c.docketAt(2), MISSING);
            Refusals.due(ActEdges::dug, "of open claims alone", c -> c.docketAt(0), MISSING);
            Refusals.due(ActEdges::heard, "of settled claims alone", c -> c.docketAt(0), MISSING);
            Refusals.due(WireDigs::new, "the last int", c -> c.docketAt(Integer.MAX_VALUE), MISSING);
            WireDigs x = Scenes.claims(12);
            x.set(3, 20);
            for (int claim = 0; claim < 12; claim++) {
                x.appeal(claim);
            }
            Check.due("the last of twelve", x.docketAt(11), 10);
            Check.due("none behind it", x.docketAt(12), MISSING);
        });
    }

    private static void wronged(Edges e) {
        e.section("Promise 22: wronged");
        e.holds("`int wronged()`: Returns the nets that are not joined and have a claim for which less was paid than its loss.", () -> {
            WireDigs x = Scenes.gate(2, 0, 1, 21);
            x.set(1, 5);
            x.set(2, 3);
            x.lay(0);
            x.dig(1);
            Check.due("just the loss was paid", x.wronged(), 0);
            x.set(2, 4);
            Check.due("less was paid", x.wronged(), 1);
            x.set(2, 2);
            Check.due("more was paid", x.wronged(), 0);
            WireDigs y = Scenes.gate(2, 0, 1, 6);
            y.set(1, 0);
            y.set(2, 1);
            y.lay(0);
            y.dig(1);
            Check.due("one coin less was paid", y.wronged(), 1);
            y.rip(1);
            y.lay(0);
            Check.due("joined again", y.wronged(), 0);
        });
        e.holds("Returns the set of nets.", () -> {
            Check.due("none", new WireDigs().wronged(), 0);
            Check.due("the first net", dug().wronged(), 1);
            WireDigs x = Scenes.claims(2);
            x.rip(0);
            Check.due("two nets", x.wronged(), 3);
            WireDigs y = Scenes.laidGateOfLastNets();
            y.dig(4);
            Check.due("the last net", y.wronged(), 32);
            WireDigs z = claimsAndTwoMore(11);
            z.net(50, 52, -1, 0, 0);
            z.dig(4);
            Check.due("the last claim is of net 1", z.claimOf(11, 0), 1);
            Check.due("the last claim is looked at, too", z.wronged(), 3);
        });
    }
}
