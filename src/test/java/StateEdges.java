import java.util.ArrayList;
import java.util.List;
import java.util.function.Supplier;
import java.util.function.ToIntFunction;

/** Sentences of the terms Texts and Changes, of the promises 23 to 28, and that of the 512 calls. */
final class StateEdges {
    private static final int INVALID = Scenes.INVALID;
    private static final int IMPOSSIBLE = Scenes.IMPOSSIBLE;
    private static final int LIMIT = Scenes.LIMIT;
    private static final int MISSING = Scenes.MISSING;
    /** Fifty-six characters: four more go in. */
    private static final String ALMOST_FULL = "w50;w50;w50;w50;w50;w50;w50;w50;w50;w50;w50;w50;w50;w50;";
    private static final String FULL = ALMOST_FULL + "w50;";

    private StateEdges() {
    }

    static void all(Edges e) {
        calls(e);
        e.section("Texts");
        texts(e);
        forms(e);
        faults(e);
        e.section("Changes and errors");
        changes(e);
        errors(e);
        count(e);
        undo(e);
        type(e);
        clearText(e);
        fault(e);
        play(e);
    }

    private static void calls(Edges e) {
        e.section("What it is");
        e.holds("An object is used for at most 512 calls after it has been made", () -> {
            WireDigs x = new WireDigs();
            for (int call = 1; call <= 512; call++) {
                Check.due("call " + call, x.pass(1), call);
            }
            WireDigs y = Scenes.gate(0, 0, 0, 0);
            y.set(1, 0);
            y.lay(0);
            for (int call = 13; call <= 512; call += 2) {
                Check.due("call " + call, y.dig(1), 0);
                Check.due("call " + (call + 1), y.undo(), 3);
            }
        });
    }

    private static WireDigs gate() {
        return Scenes.gate(2, 100, 1, 20);
    }

    private static WireDigs typed(WireDigs x, String text) {
        Scenes.typeAll(x, text);
        return x;
    }

    private static void dueFault(Supplier<WireDigs> scene, String text, int position, int reason) {
        Check.due("position in " + text, typed(scene.get(), text).fault(0), position);
        Check.due("reason of " + text, typed(scene.get(), text).fault(1), reason);
        Check.due("play of " + text, typed(scene.get(), text).play(), IMPOSSIBLE);
    }

    private static void dueNoFault(Supplier<WireDigs> scene, String text, int orders) {
        Check.due("position in " + text, typed(scene.get(), text).fault(0), MISSING);
        Check.due("reason of " + text, typed(scene.get(), text).fault(1), MISSING);
        Check.due("play of " + text, typed(scene.get(), text).play(), orders);
    }

    private static void texts(Edges e) {
        e.holds("There is a text of at most 60 characters", () -> {
            WireDigs x = new WireDigs();
            for (int length = 1; length <= 60; length++) {
                Check.due("character " + length, x.type(';'), length);
            }
            Refusals.due(() -> typed(new WireDigs(), FULL), "one more", c -> c.type(';'), LIMIT);
        });
        e.holds("initially empty", () -> {
            Check.due("its length", new WireDigs().count(11), 0);
            Check.due("the length it had", new WireDigs().clearText(), 0);
            Check.due("its fault", new WireDigs().fault(0), MISSING);
            Check.due("its orders", new WireDigs().play(), 0);
        });
        e.holds("orders, each followed by \";\"", () -> {
            dueNoFault(StateEdges::gate, "l0;r0;", 2);
            dueFault(StateEdges::gate, "l0;r0", 3, 1);
            dueFault(StateEdges::gate, "l0r0;", 0, 1);
            dueFault(StateEdges::gate, "l0;;", 3, 1);
            dueFault(StateEdges::gate, ";", 0, 1);
            dueFault(StateEdges::gate, "l0; ", 3, 1);
        });
        e.holds("\"l\" a net (lay), \"d\" a net (dig), \"r\" a net (rip), \"a\" a claim (appeal), \"h\" (hear), or \"w\" acts (pass)", () -> {
            dueSame(StateEdges::gate, "l1;", x -> x.lay(1));
            dueSame(StateEdges::laid, "d1;", x -> x.dig(1));
            dueSame(StateEdges::laid, "r0;", x -> x.rip(0));
            dueSame(StateEdges::dug, "a0;", x -> x.appeal(0));
            dueSame(StateEdges::appealed, "h;", x -> x.hear());
            dueSame(StateEdges::gate, "w50;", x -> x.pass(50));
        });
    }

    private static WireDigs laid() {
        return Scenes.laidGate(2, 100, 20);
    }

    private static WireDigs dug() {
        return Scenes.dugGate(2, 100, 20);
    }

    private static WireDigs appealed() {
        WireDigs x = dug();
        x.appeal(0);
        return x;
    }

    private static void dueSame(Supplier<WireDigs> scene, String order, ToIntFunction<WireDigs> call) {
        WireDigs called = scene.get();
        WireDigs played = typed(scene.get(), order);
        Check.dueThat("the call of " + order + " is possible: this", call.applyAsInt(called) >= 0);
        Check.due("play of " + order, played.play(), 1);
        Check.dueThat(order + " does the same as its call: this", Snapshot.ofChip(called).equals(Snapshot.ofChip(played)));
    }

    private static void forms(Edges e) {
        e.holds("numbers of 1 or 2 digits", () -> {
            for (String letter : List.of("l", "d", "r", "a", "w")) {
                dueFault(StateEdges::gate, letter + ";", 0, 1);
                dueFault(StateEdges::gate, letter + "001;", 0, 1);
                dueFault(StateEdges::gate, letter + "/;", 0, 1);
                dueFault(StateEdges::gate, letter + ":;", 0, 1);
                dueFault(StateEdges::gate, letter + "0:;", 0, 1);
                dueFault(StateEdges::gate, letter + "0/;", 0, 1);
            }
            dueFault(StateEdges::gate, "h0;", 0, 1);
            dueNoFault(StateEdges::gate, "w9;w10;", 2);
        });
        e.holds("0 ahead allowed", () -> {
            dueNoFault(StateEdges::gate, "l00;r00;d01;w01;w09;", 5);
            dueNoFault(StateEdges::dug, "a00;", 1);
        });
    }

    private static void faults(Edges e) {
        e.holds("The fault of the text is the position, from 0, of the first character of the first order that is not possible", () -> {
            dueFault(StateEdges::gate, "l9;zz", 0, 2);
            dueFault(StateEdges::gate, "l0;zz;l9;", 3, 1);
            dueFault(StateEdges::gate, "l0;r0;l0;l0;zz", 9, 3);
            dueFault(StateEdges::gate, ALMOST_FULL + "w51;", 56, 3);
            dueFault(StateEdges::gate, ALMOST_FULL + "w1;w", 59, 1);
            dueNoFault(StateEdges::gate, FULL, 15);
        });
        e.holds("its reason is 1 if it is not of this form", () -> {
            for (String text : List.of("x0;", "L0;", "H;", "W1;", "0;", "0l;", " l0;", "l 0;", "l-1;", "lh;", "hh;", "~;")) {
                dueFault(StateEdges::gate, text, 0, 1);
            }
            // Of this form it is not, so it does not matter that there is no such net, or no such act.
            dueFault(StateEdges::gate, "l9", 0, 1);
            dueFault(StateEdges::gate, "l009;", 0, 1);
            dueFault(StateEdges::gate, "w99", 0, 1);
            dueFault(StateEdges::gate, "w100;", 0, 1);
        });
        e.holds(", its \";\" included", () -> {
            dueFault(StateEdges::gate, "l0", 0, 1);
            dueFault(StateEdges::gate, "l00", 0, 1);
            dueFault(StateEdges::gate, "l0:", 0, 1);
            dueFault(StateEdges::gate, "l0 ;", 0, 1);
            dueFault(StateEdges::appealed, "h", 0, 1);
            dueFault(StateEdges::appealed, "h,", 0, 1);
            dueFault(StateEdges::gate, ALMOST_FULL + "w500", 56, 1);
        });
        e.holds("2 if there is no such net or claim", () -> {
            for (String letter : List.of("l", "d", "r")) {
                dueFault(StateEdges::gate, letter + "2;", 0, 2);
                dueFault(StateEdges::gate, letter + "99;", 0, 2);
                dueFault(WireDigs::new, letter + "0;", 0, 2);
            }
            dueFault(StateEdges::gate, "a0;", 0, 2);
            dueFault(StateEdges::dug, "a1;", 0, 2);
            dueFault(StateEdges::dug, "a99;", 0, 2);
            dueFault(StateEdges::gate, "l0;d1;a1;", 6, 2);
            dueNoFault(StateEdges::gate, "l0;d1;a0;", 3);
        });
        e.holds("and 3 if it is not possible otherwise (by what lay, dig, rip, appeal, hear and pass tell", () -> {
            dueFault(StateEdges::laid, "l0;", 0, 3);
            dueFault(StateEdges::laid, "l1;", 0, 3);
            dueFault(StateEdges::laid, "d0;", 0, 3);
            dueFault(StateEdges::dug, "w7;a0;", 3, 3);
            dueNoFault(StateEdges::dug, "w6;a0;", 2);
            dueFault(StateEdges::appealed, "a0;", 0, 3);
            dueFault(StateEdges::appealed, "h;h;", 2, 3);
            dueFault(StateEdges::dug, "h;", 0, 3);
            dueFault(StateEdges::dug, "r0;", 0, 3);
            dueFault(StateEdges::poor, "l0;d1;", 3, 3);
            dueFault(StateEdges::cheap, "l0;d1;d0;d1;d0;d1;d0;d1;d0;d1;d0;d1;d0;d1;", 39, 3);
            dueNoFault(StateEdges::cheap, "l0;d1;d0;d1;d0;d1;d0;d1;d0;d1;d0;d1;d0;", 13);
        });
        e.holds("acts out of their range, too)", () -> {
            for (String acts : List.of("0", "00", "51", "99")) {
                dueFault(StateEdges::gate, "w" + acts + ";", 0, 3);
            }
            dueNoFault(StateEdges::gate, "w1;w01;w50;", 3);
        });
        e.holds("when those ahead of it are done.", () -> {
            dueFault(StateEdges::gate, "r0;l0;", 0, 3);
            dueNoFault(StateEdges::gate, "l0;r0;l0;r0;", 4);
            dueFault(StateEdges::gate, "l0;d1;a0;h;h;", 11, 3);
            // Net 1 can pay its second digging only with what net 0 has paid it, and one coin more.
            dueFault(StateEdges::gate, "l0;d1;d0;d1;", 9, 3);
            Supplier<WireDigs> richer = () -> Scenes.gate(2, 100, 1, 21);
            dueNoFault(richer, "l0;d1;d0;d1;", 4);
        });
    }

    private static WireDigs poor() {
        return Scenes.gate(2, 100, 1, 17);
    }

    private static WireDigs cheap() {
        WireDigs x = Scenes.gate(0, 0, 0, 0);
        x.set(1, 0);
        return x;
    }

    /** One call of each kind that is a change, possible in the scene below. */
    private static final List<ToIntFunction<WireDigs>> CHANGES = List.of(
        x -> x.set(0, 20), x -> x.block(0, 1), x -> x.net(0, 1, 2, 3, 4), x -> x.give(0, 9999), x -> x.lay(2),
        x -> x.dig(0), x -> x.rip(1), x -> x.appeal(1), x -> x.hear(), x -> x.pass(50), x -> x.play());

    /** All kinds of changes are possible here; there are two claims, a text, and four states. */
    private static WireDigs busy() {
        WireDigs x = Scenes.gate(2, 100, 1, 200);
        x.net(45, 48, -1, 0, 0);
        x.lay(0);
        x.dig(1);
        x.dig(0);
        x.appeal(0);
        x.dig(1);
        Scenes.typeAll(x, "r1;l1;h;");
        return x;
    }

    /** As busy, but nothing can be undone. */
    private static WireDigs fresh() {
        WireDigs x = busy();
        for (int i = 0; i < 4; i++) {
            x.set(3, 6);
        }
        for (int i = 0; i < 4; i++) {
            x.undo();
        }
        return x;
    }

    private static WireDigs passed(int... acts) {
        WireDigs x = new WireDigs();
        for (int i : acts) {
            x.pass(i);
        }
        return x;
    }

    private static void changes(Edges e) {
        e.holds("The changes are the calls of set, block, net, give, lay, dig, rip, appeal, hear, pass and play that return no error.", () -> {
            for (int kind = 0; kind < CHANGES.size(); kind++) {
                WireDigs x = fresh();
                Check.due("states ahead of kind " + kind, x.count(10), 0);
                Check.dueThat("kind " + kind + " is possible: this", CHANGES.get(kind).applyAsInt(x) >= 0);
                Check.due("states after kind " + kind, x.count(10), 1);
            }
            WireDigs x = fresh();
            x.type('h');
            x.fault(0);
            x.clearText();
            x.cost(2, 1);
            x.bestOrder(0);
            x.undo();
            x.lay(1);
            x.net(0, 0, 0, 0, 0);
            Check.due("other calls, and errors", x.count(10), 0);
        });
        e.holds("A history of at most 4 states is kept", () -> {
            for (int changes = 0; changes <= 9; changes++) {
                WireDigs x = passed(new int[changes]);
                Check.due("errors are not kept", x.count(10), 0);
                for (int i = 0; i < changes; i++) {
                    x.set(0, 3);
                }
                Check.due("after " + changes + " changes", x.count(10), Math.min(4, changes));
            }
        });
        e.holds("each change records everything before it but the text", () -> {
            for (int kind = 0; kind < CHANGES.size(); kind++) {
                WireDigs x = busy();
                CHANGES.get(kind).applyAsInt(x);
                boolean changed = !Snapshot.ofChip(x).equals(Snapshot.ofChip(busy()));
                Check.dueThat("kind " + kind + " changes something: this", changed);
                WireDigs y = busy();
                CHANGES.get(kind).applyAsInt(y);
                y.type('w');
                y.undo();
                boolean restored = Snapshot.ofChip(y).equals(Snapshot.ofChip(busy()));
                Check.dueThat("all is as it was before kind " + kind + ": this", restored);
                Check.due("but the text", y.count(11), 9);
            }
        });
        e.holds("and if there are 5 states then, the oldest one is dropped.", () -> {
            WireDigs x = passed(1, 2, 3, 4, 5);
            for (int undos = 1; undos <= 4; undos++) {
                x.undo();
            }
            Check.due("the first state that is kept", x.count(6), 1);
            Check.due("the one before it is dropped", x.undo(), IMPOSSIBLE);
            WireDigs y = passed(1, 2, 3, 4);
            for (int undos = 1; undos <= 4; undos++) {
                y.undo();
            }
            Check.due("of four none is dropped", y.count(6), 0);
            dueAsAList();
        });
    }

    /** Changes and undos by turns, so often that each place for a state is used many times. */
    private static void dueAsAList() {
        WireDigs x = new WireDigs();
        List<Integer> states = new ArrayList<>();
        int acts = 0;
        for (int i = 0; i < 250; i++) {
            if (i * i % 11 < 5) {
                states.add(acts);
                acts += 1 + i % 50;
                Check.due("pass", x.pass(1 + i % 50), acts);
                if (states.size() > 4) {
                    states.remove(0);
                }
            } else if (states.isEmpty()) {
                Check.due("undo of nothing", x.undo(), IMPOSSIBLE);
            } else {
                acts = states.remove(states.size() - 1);
                Check.due("undo", x.undo(), states.size());
            }
            Check.due("acts", x.count(6), acts);
        }
    }

    private static void errors(Edges e) {
        e.holds("If several errors apply to a call, INVALID_ARGUMENT is returned rather than NOT_POSSIBLE", () -> {
            Refusals.due(StateEdges::dug, "block(36, 2)", c -> c.block(36, 2), INVALID);
            Refusals.due(StateEdges::dug, "net(36, 0, -1, 10, 0)", c -> c.net(36, 0, -1, 10, 0), INVALID);
            Refusals.due(StateEdges::dug, "cost(1, 2)", c -> c.cost(1, 2), INVALID);
            Refusals.due(StateEdges::dug, "routeAt(1, 0, -1)", c -> c.routeAt(1, 0, -1), INVALID);
            Refusals.due(StateEdges::dug, "routeAt(1, -1, 0)", c -> c.routeAt(1, -1, 0), INVALID);
        });
        // No call can answer LIMIT_REACHED and NOT_FOUND.
        e.holds("NOT_POSSIBLE rather than LIMIT_REACHED, and LIMIT_REACHED rather than NOT_FOUND.", () -> {
            Refusals.due(StateEdges::fullOfNets, "net(0, 60, -1, 0, 0)", c -> c.net(0, 60, -1, 0, 0), IMPOSSIBLE);
            Refusals.due(StateEdges::fullOfNets, "net(60, 61, -1, 0, 0)", c -> c.net(60, 61, -1, 0, 0), LIMIT);
            Refusals.due(StateEdges::fullOfClaims, "dig of a joined net", c -> c.dig(0), IMPOSSIBLE);
            Refusals.due(StateEdges::fullOfClaims, "dig", c -> c.dig(1), LIMIT);
        });
        e.holds("A call that returns an error changes nothing.", () ->
            Refusals.due(StateEdges::busy, "each call with an error", StateEdges::callWithErrors, 0));
        e.holds("If there is no net, pin or claim with a certain number, this is INVALID_ARGUMENT.", () -> {
            for (int number : new int[] {Integer.MIN_VALUE, -1, 3, 6, 12, Integer.MAX_VALUE}) {
                dueNoSuch(number);
            }
        });
        e.holds("The constants: `INVALID_ARGUMENT = -1000001`: An argument is out of its range, or there is no such net, pin or claim.", () ->
            Check.due("INVALID_ARGUMENT", WireDigs.INVALID_ARGUMENT, -1000001));
        e.holds("`NOT_POSSIBLE = -1000002`: The call is not possible in the present state.", () ->
            Check.due("NOT_POSSIBLE", WireDigs.NOT_POSSIBLE, -1000002));
        e.holds("`LIMIT_REACHED = -1000003`: A fixed limit has been reached.", () ->
            Check.due("LIMIT_REACHED", WireDigs.LIMIT_REACHED, -1000003));
        e.holds("`NOT_FOUND = -1000004`: There is no such value.", () ->
            Check.due("NOT_FOUND", WireDigs.NOT_FOUND, -1000004));
    }

    private static WireDigs fullOfNets() {
        return Scenes.easyNets(6);
    }

    private static WireDigs fullOfClaims() {
        return Scenes.claims(12);
    }

    /** Returns how many of them answered something else than an error. */
    private static int callWithErrors(WireDigs x) {
        int[] answers = {
            x.set(0, 21), x.block(4, 1), x.net(0, 1, 0, 0, 0), x.give(0, 0), x.lay(1), x.dig(1), x.rip(2),
            x.appeal(0), x.pass(51), x.type(127), x.lay(0), x.lay(3), x.dig(-1), x.rip(0), x.appeal(3),
            x.netOf(0, 2), x.cellOf(162), x.wireAt(0, 0), x.cost(1, 1), x.price(1), x.victims(1),
            x.routeAt(1, 0, 0), x.bestOrder(-2), x.claimOf(3, 0), x.docketAt(1), x.count(12), x.fault(2)
        };
        int wrong = 0;
        for (int answer : answers) {
            wrong += answer > INVALID || answer < MISSING ? 1 : 0;
        }
        return wrong;
    }

    private static void dueNoSuch(int number) {
        WireDigs x = busy();
        int[] answers = {
            x.give(number, 1), x.netOf(number, 0), x.netOf(number, 2), x.wireAt(number, 0), x.lay(number),
            x.dig(number), x.rip(number), x.cost(number, 0), x.price(number), x.victims(number),
            x.routeAt(number, 0, 0), x.appeal(number), x.claimOf(number, 0)
        };
        for (int i = 0; i < answers.length; i++) {
            Check.due("call " + i + " for " + number, answers[i], INVALID);
        }
    }

    /** Nets with crossings in the places 10 and 70, the first and the last that can have one. */
    private static WireDigs crossed() {
        WireDigs x = new WireDigs();
        x.net(9, 11, -1, 0, 1);
        x.net(1, 19, -1, 0, 10);
        x.net(69, 71, -1, 0, 100);
        x.net(61, 79, -1, 0, 1000);
        for (int net = 0; net < 4; net++) {
            x.lay(net);
        }
        return x;
    }

    private static void count(Edges e) {
        e.section("Promise 23: count");
        e.holds("`int count(int what)`: Returns a number.", () -> {
            int[] counts = {4, 4, 0, 162 - 16 - 4, 0, 0, 4, 1111, 4, 2, 4, 0};
            for (int what = 0; what < counts.length; what++) {
                Check.due("count(" + what + ")", crossed().count(what), counts[what]);
            }
        });
        e.holds("`what`: 0: nets", () -> {
            Check.due("none", new WireDigs().count(0), 0);
            Check.due("as many as can be", fullOfNets().count(0), 6);
        });
        e.holds("1: nets that are joined", () -> {
            WireDigs x = fullOfNets();
            for (int net = 0; net < 6; net++) {
                Check.due("joined", x.count(1), net);
                x.lay(net);
            }
            Check.due("all", x.count(1), 6);
        });
        e.holds("2: blocked places", () -> {
            Check.due("none", new WireDigs().count(2), 0);
            Check.due("all but two", Scenes.only(0, 80).count(2), 79);
            Check.due("all", Scenes.only().count(2), 81);
        });
        e.holds("3: free cells", () -> {
            Check.due("all", new WireDigs().count(3), 162);
            Check.due("none", Scenes.only().count(3), 0);
            WireDigs x = Scenes.only(0, 1, 2);
            x.net(0, 2, -1, 0, 0);
            Check.due("two", x.count(3), 2);
            x.lay(0);
            Check.due("one", x.count(3), 1);
        });
        e.holds("4: claims", () -> {
            Check.due("one", dug().count(4), 1);
            Check.due("settled ones, too", heard().count(4), 1);
            Check.due("as many as can be", fullOfClaims().count(4), 12);
        });
        e.holds("5: appeals to be heard", () -> {
            Check.due("none of an open claim", dug().count(5), 0);
            Check.due("one", appealed().count(5), 1);
            Check.due("none of a settled claim", heard().count(5), 0);
        });
        e.holds("6: acts so far", () -> {
            Check.due("none", gate().count(6), 0);
            Check.due("two", dug().count(6), 2);
            Check.due("four", heard().count(6), 4);
        });
        e.holds("7: coins in all purses", () -> {
            Check.due("of no nets", new WireDigs().count(7), 0);
            Check.due("what is paid stays", heard().count(7), 120);
            WireDigs x = new WireDigs();
            for (int net = 0; net < 6; net++) {
                x.net(9 * net, 9 * net + 1, -1, 0, 9999);
            }
            Check.due("of six full ones", x.count(7), 59994);
        });
        e.holds("8: cells of all wires", () -> {
            Check.due("none of pins", fullOfNets().count(8), 0);
            Check.due("of one", dug().count(8), 13);
            Check.due("of four", crossed().count(8), 4);
            Check.due("from the first cell to the last one", Scenes.cornerWires().count(8), 24);
        });
        e.holds("9: places at which cells of the wires of two unlike nets are above one another", () -> {
            Check.due("two", crossed().count(9), 2);
            WireDigs x = crossed();
            x.rip(0);
            Check.due("one", x.count(9), 1);
            x.rip(3);
            Check.due("none", x.count(9), 0);
            Check.due("none where both cells are of one net", dug().count(9), 0);
        });
        e.holds("10: states in the history", () -> {
            Check.due("none", new WireDigs().count(10), 0);
            Check.due("three", passed(1, 1, 1).count(10), 3);
            Check.due("as many as can be", passed(1, 1, 1, 1, 1).count(10), 4);
        });
        e.holds("11: the length of the text", () -> {
            Check.due("none", new WireDigs().count(11), 0);
            Check.due("as many as can be", typed(new WireDigs(), FULL).count(11), 60);
        });
        e.holds("20 to 23: the settings 0 to 3", () -> {
            WireDigs x = new WireDigs();
            int[] most = {20, 50, 50, 20};
            for (int what = 0; what < 4; what++) {
                x.set(what, most[what]);
                Check.due("count(2" + what + ")", x.count(20 + what), most[what]);
            }
        });
        e.holds("Returns the number", () -> {
            Refusals.range(StateEdges::busy, "count", (x, what) -> x.count(what), 0, 11);
            Refusals.range(StateEdges::busy, "count", (x, what) -> x.count(what), 20, 23);
        });
        e.holds("INVALID_ARGUMENT if what is out of range.", () -> {
            for (int what = 12; what < 20; what++) {
                Check.due("count(" + what + ")", new WireDigs().count(what), INVALID);
            }
            Refusals.due(WireDigs::new, "count(-1)", c -> c.count(-1), INVALID);
            Refusals.due(WireDigs::new, "count(24)", c -> c.count(24), INVALID);
        });
    }

    private static WireDigs heard() {
        WireDigs x = appealed();
        x.hear();
        return x;
    }

    private static void undo(Edges e) {
        e.section("Promise 24: undo");
        e.holds("`int undo()`: Restores the latest state of the history, which is removed from it.", () -> {
            WireDigs x = passed(1, 2, 3);
            x.undo();
            Check.due("the latest one", x.count(6), 3);
            x.undo();
            Check.due("the one before it", x.count(6), 1);
            x.pass(5);
            x.undo();
            Check.due("the one between is gone", x.count(6), 1);
            x.undo();
            Check.due("the first one", x.count(6), 0);
        });
        e.holds("Returns the number of states that are left in the history", () -> {
            WireDigs x = passed(1, 1, 1, 1, 1, 1);
            for (int left = 3; left >= 0; left--) {
                Check.due("left", x.undo(), left);
                Check.due("as count tells", x.count(10), left);
            }
        });
        e.holds("NOT_POSSIBLE if it is empty.", () -> {
            Refusals.due(WireDigs::new, "of a new object", c -> c.undo(), IMPOSSIBLE);
            Refusals.due(StateEdges::fresh, "after as many undos as changes", c -> c.undo(), IMPOSSIBLE);
            Refusals.due(() -> typed(new WireDigs(), FULL), "of texts", c -> c.undo(), IMPOSSIBLE);
        });
    }

    private static void type(Edges e) {
        e.section("Promise 25: type");
        e.holds("`int type(int character)`: Appends a character to the text.", () -> {
            WireDigs x = typed(new WireDigs(), "w1;");
            Check.due("no fault", x.fault(0), MISSING);
            x.type('w');
            Check.due("its position", x.fault(0), 3);
            x.type('2');
            x.type(';');
            Check.due("both orders", x.play(), 2);
            Check.due("their acts", x.count(6), 3);
        });
        e.holds("`character`: 32 to 126", () ->
            Refusals.range(StateEdges::busy, "type", (x, character) -> x.type(character), 32, 126));
        e.holds("Returns the length of the text", () -> {
            Check.due("the first one", new WireDigs().type(32), 1);
            Check.due("the last one that goes in", typed(new WireDigs(), ALMOST_FULL + "w50").type(126), 60);
        });
        e.holds("INVALID_ARGUMENT if character is out of range", () -> {
            Refusals.due(() -> typed(new WireDigs(), FULL), "31 rather than the limit", c -> c.type(31), INVALID);
            Refusals.due(() -> typed(new WireDigs(), FULL), "127 rather than the limit", c -> c.type(127), INVALID);
            // Its last eight bits are those of a character.
            Refusals.due(WireDigs::new, "256 + 32", c -> c.type(288), INVALID);
            Refusals.due(WireDigs::new, "65536 + 32", c -> c.type(65568), INVALID);
        });
        e.holds("LIMIT_REACHED if it has 60 characters.", () -> {
            Refusals.due(() -> typed(new WireDigs(), FULL), "one more", c -> c.type(32), LIMIT);
            WireDigs x = typed(new WireDigs(), FULL);
            x.clearText();
            Check.due("after it was emptied", x.type(32), 1);
        });
    }

    private static void clearText(Edges e) {
        e.section("Promise 26: clearText");
        e.holds("`int clearText()`: Empties the text.", () -> {
            WireDigs x = typed(new WireDigs(), FULL);
            x.clearText();
            Check.due("its length", x.count(11), 0);
            Check.due("its orders", x.play(), 0);
            Scenes.retype(x, "h;");
            Scenes.retype(x, "h");
            Check.due("what was there does not go on behind it", x.fault(1), 1);
        });
        e.holds("Returns the length it had.", () -> {
            WireDigs x = new WireDigs();
            Check.due("none", x.clearText(), 0);
            x.type(32);
            Check.due("one", x.clearText(), 1);
            Scenes.typeAll(x, FULL);
            Check.due("as many as can be", x.clearText(), 60);
            Check.due("none again", x.clearText(), 0);
        });
    }

    private static void fault(Edges e) {
        e.section("Promise 27: fault");
        e.holds("`int fault(int what)`: Tells about the fault of the text.", () -> {
            WireDigs x = typed(gate(), "l0;l0;");
            Check.due("its position", x.fault(0), 3);
            Check.due("its reason", x.fault(1), 3);
            Check.due("nothing is done", x.count(1), 0);
            Check.due("the text stays", x.count(11), 6);
        });
        e.holds("`what`: 0: its position; 1: its reason", () ->
            Refusals.range(() -> typed(new WireDigs(), "l0;"), "fault", (x, what) -> x.fault(what), 0, 1));
        e.holds("Returns that", () -> {
            Check.due("the first position", typed(new WireDigs(), "l0;").fault(0), 0);
            Check.due("the last position", typed(new WireDigs(), ALMOST_FULL + "w1;h").fault(0), 59);
            Check.due("reason 1", typed(new WireDigs(), "l0").fault(1), 1);
            Check.due("reason 2", typed(new WireDigs(), "l0;").fault(1), 2);
            Check.due("reason 3", typed(new WireDigs(), "h;").fault(1), 3);
        });
        e.holds("INVALID_ARGUMENT if what is out of range", () -> {
            Refusals.due(StateEdges::busy, "fault(-1)", c -> c.fault(-1), INVALID);
            Refusals.due(WireDigs::new, "rather than an empty text", c -> c.fault(2), INVALID);
            Refusals.due(() -> typed(new WireDigs(), "w1;"), "rather than no fault", c -> c.fault(2), INVALID);
        });
        e.holds("NOT_FOUND if the text has no fault (also if it is empty).", () -> {
            Refusals.due(() -> typed(new WireDigs(), FULL), "a full text without a fault", c -> c.fault(0), MISSING);
            Refusals.due(() -> typed(new WireDigs(), FULL), "its reason", c -> c.fault(1), MISSING);
            Refusals.due(WireDigs::new, "an empty text", c -> c.fault(0), MISSING);
            Refusals.due(WireDigs::new, "its reason", c -> c.fault(1), MISSING);
        });
    }

    private static void play(Edges e) {
        e.section("Promise 28: play");
        e.holds("`int play()`: Does all orders of the text, which stays.", () -> {
            WireDigs x = typed(new WireDigs(), FULL);
            x.play();
            Check.due("all fifteen passes", x.count(6), 750);
            Check.due("the text stays", x.count(11), 60);
            x.play();
            Check.due("all of them again", x.count(6), 1500);
        });
        e.holds("They are one change, also if there are none.", () -> {
            WireDigs x = typed(new WireDigs(), FULL);
            x.play();
            Check.due("one state", x.count(10), 1);
            x.undo();
            Check.due("all is undone", x.count(6), 0);
            WireDigs y = new WireDigs();
            y.play();
            Check.due("one state of no orders", y.count(10), 1);
            Check.due("undo of no orders", y.undo(), 0);
        });
        e.holds("Returns how many there are in it", () -> {
            Check.due("none", new WireDigs().play(), 0);
            Check.due("one", typed(new WireDigs(), "w1;").play(), 1);
            Check.due("as many as go in", typed(gate(), "l0;r0;l0;r0;l0;r0;l0;r0;l0;r0;l0;r0;l0;r0;l0;r0;l0;r0;l0;r0;").play(), 20);
        });
        e.holds("NOT_POSSIBLE if it has a fault.", () -> {
            Refusals.due(() -> typed(gate(), "w1;l0;d1"), "of the form, at its end", c -> c.play(), IMPOSSIBLE);
            Refusals.due(() -> typed(gate(), "w1;l0;l2;"), "of no such net", c -> c.play(), IMPOSSIBLE);
            Refusals.due(() -> typed(gate(), "l0;d1;a0;h;h;"), "of what is not possible", c -> c.play(), IMPOSSIBLE);
            Refusals.due(() -> typed(gate(), ALMOST_FULL + "w51;"), "of its last order", c -> c.play(), IMPOSSIBLE);
            Refusals.due(() -> typed(new WireDigs(), ";"), "of no order", c -> c.play(), IMPOSSIBLE);
        });
    }
}
