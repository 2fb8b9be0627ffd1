import java.util.HashMap;
import java.util.Map;
import java.util.Random;
import java.util.TreeMap;

/** Long runs of calls, whose answers are compared with those of the model. */
public final class ModelTest {
    private static final int RUNS = 1500;
    /** What an object answers to later calls is free. */
    private static final int CALLS = 512;
    /** No step below makes more calls. */
    private static final int MOST_AT_ONCE = 12;
    private static final int CELLS = 162;
    private static final int[] EXTREMES = {
        Integer.MIN_VALUE, Integer.MIN_VALUE + 1, -1000004, -162, -10, -3, -2, -1, 6, 12, 60, 80, 81, 161, 162,
        127, 256, 9999, 100000, 1000000, 65536 + 48, Integer.MAX_VALUE - 1, Integer.MAX_VALUE
    };
    /** What the runs must have come to, so that they are worth something. */
    private static final String[] WANTED = {
        "diggings with 0 victims", "diggings with 1 victims", "diggings with 2 victims",
        "second path ends on the first", "second path ends on a pin", "hearings paid in full",
        "hearings not paid in full", "hearings without a due", "digger loses its wire",
        "digger was not joined", "wire comes back", "wire is not free", "holder is joined",
        "faults of reason 1", "faults of reason 2", "faults of reason 3", "plays of many orders"
    };

    private final Random random;
    private final WireDigs x = new WireDigs();
    private final Model model;
    private final StringBuilder calls = new StringBuilder();
    /** In tight runs the chip is small, digging is cheap, and purses are low. */
    private final boolean tight;
    private final int width;
    private final int height;
    private int made = 0;

    private ModelTest(int seed, Map<String, Integer> seen) {
        random = new Random(seed);
        model = new Model(seen);
        tight = seed % 4 != 0;
        width = tight ? 4 + random.nextInt(4) : 9;
        height = tight ? 3 + random.nextInt(3) : 9;
    }

    public static void main(String[] args) {
        Map<String, Integer> seen = new HashMap<>();
        for (int seed = 0; seed < RUNS; seed++) {
            String wrong = new ModelTest(seed, seen).run();
            Check.due("run " + seed + wrong, wrong.isEmpty() ? 0 : 1, 0);
        }
        System.out.println(new TreeMap<>(seen));
        for (String wanted : WANTED) {
            Check.dueThat("at least 10 " + wanted, seen.getOrDefault(wanted, 0) >= 10);
        }
        Check.finish();
    }

    /** Returns nothing, or the calls up to the first one that is answered otherwise. */
    private String run() {
        boolean same = !tight || fence();
        while (same && made + MOST_AT_ONCE + CELLS <= CALLS) {
            int kind = random.nextInt(100);
            same = kind < 62 ? changeOnce() : kind < 88 ? askOnce() : writeOnce();
        }
        same = same && cells(0, CELLS);
        return same ? "" : ":" + calls;
    }

    /** Blocks what is right of and below the part of the chip that a tight run uses. */
    private boolean fence() {
        boolean all = true;
        for (int row = 0; row < height && width < 9 && all; row++) {
            all = block(9 * row + width, 1);
        }
        for (int column = 0; column < width && height < 9 && all; column++) {
            all = block(9 * height + column, 1);
        }
        return all;
    }

    /** Now and then an argument is far away from those that are usual. */
    private int or(int usual) {
        return random.nextInt(100) == 0 ? EXTREMES[random.nextInt(EXTREMES.length)] : usual;
    }

    private int place() {
        if (random.nextInt(50) == 0) {
            return random.nextInt(85) - 2;
        }
        return 9 * random.nextInt(height) + random.nextInt(width);
    }

    private int netNumber() {
        int nets = model.count(0);
        return random.nextInt(30) == 0 || nets == 0 ? random.nextInt(9) - 1 : random.nextInt(nets);
    }

    private int claimNumber() {
        int claims = model.count(4);
        boolean any = random.nextInt(30) == 0 || claims == 0;
        return any ? random.nextInt(14) - 1 : Math.max(0, claims - 1 - random.nextInt(4));
    }

    private boolean same(String call, int got, int want) {
        made++;
        calls.append("\n  ").append(call).append(" answered ").append(got);
        if (got != want) {
            calls.append(", the model ").append(want);
        }
        return got == want;
    }

    private boolean changeOnce() {
        int nets = model.count(0);
        int kind = random.nextInt(100);
        if (nets < 5 && kind < 40 || kind < 2) {
            return addNet();
        }
        int net = or(netNumber());
        int claim = or(claimNumber());
        if (kind < 20) {
            return same("lay " + net, x.lay(net), model.lay(net));
        }
        if (kind < 48) {
            return same("dig " + net, x.dig(net), model.dig(net));
        }
        if (kind < 52) {
            return same("rip " + net, x.rip(net), model.rip(net));
        }
        if (kind < 67) {
            return same("appeal " + claim, x.appeal(claim), model.appeal(claim));
        }
        if (kind < 76) {
            return same("hear", x.hear(), model.hear());
        }
        return rareChange(kind, net);
    }

    private boolean rareChange(int kind, int net) {
        if (kind < 79) {
            int acts = or(random.nextInt(10) == 0 ? random.nextInt(55) - 2 : 1 + random.nextInt(3));
            return same("pass " + acts, x.pass(acts), model.pass(acts));
        }
        if (kind < 83) {
            int what = or(random.nextInt(20) == 0 ? random.nextInt(6) - 1 : random.nextInt(4));
            int value = or(random.nextInt(20) == 0 ? random.nextInt(54) - 2 : random.nextInt(tight ? 8 : 20));
            return same("set " + what + " " + value, x.set(what, value), model.set(what, value));
        }
        if (kind < 87) {
            int coins = or(random.nextInt(20) == 0 ? random.nextInt(10003) - 1 : 1 + random.nextInt(60));
            return same("give " + net + " " + coins, x.give(net, coins), model.give(net, coins));
        }
        if (kind < 91) {
            return block(or(place()), or(random.nextInt(20) == 0 ? random.nextInt(4) - 1 : random.nextInt(2)));
        }
        if (kind < 97) {
            return same("undo", x.undo(), model.undo());
        }
        return same("play", x.play(), model.play());
    }

    private boolean block(int place, int is) {
        return same("block " + place + " " + is, x.block(place, is), model.block(place, is));
    }

    private boolean addNet() {
        int[] a = {
            or(place()), or(place()), or(random.nextInt(3) > 0 ? place() : -1),
            or(random.nextInt(20) == 0 ? random.nextInt(13) - 1 : random.nextInt(4)),
            or(random.nextInt(20) == 0 ? random.nextInt(10003) - 1 : random.nextInt(120))
        };
        return same("net " + a[0] + " " + a[1] + " " + a[2] + " " + a[3] + " " + a[4],
            x.net(a[0], a[1], a[2], a[3], a[4]), model.net(a[0], a[1], a[2], a[3], a[4]));
    }

    private boolean askOnce() {
        int net = or(netNumber());
        int digs = or(random.nextInt(30) == 0 ? random.nextInt(4) - 1 : random.nextInt(2));
        int index = or(random.nextInt(20) == 0 ? random.nextInt(400) - 2 : random.nextInt(14));
        int few = or(random.nextInt(7) - 2);
        int what = or(random.nextInt(27) - 1);
        int fact = or(random.nextInt(14) - 1);
        int cell = or(random.nextInt(CELLS + 2) - 5);
        switch (random.nextInt(14)) {
            case 0: return same("netOf " + net + " " + fact, x.netOf(net, fact), model.netOf(net, fact));
            case 1: return same("cellOf " + cell, x.cellOf(cell), model.cellOf(cell));
            case 2: return same("wireAt " + net + " " + index, x.wireAt(net, index), model.wireAt(net, index));
            case 3: return same("cost " + net + " " + digs, x.cost(net, digs), model.cost(net, digs));
            case 4: return same("price " + net, x.price(net), model.price(net));
            case 5: return same("victims " + net, x.victims(net), model.victims(net));
            case 6: return same("routeAt " + net + " " + digs + " " + index,
                x.routeAt(net, digs, index), model.routeAt(net, digs, index));
            case 7: return same("bestOrder " + few, x.bestOrder(few), model.bestOrder(few));
            case 8: return claim(or(claimNumber()));
            case 9: return same("docketAt " + few, x.docketAt(few), model.docketAt(few));
            case 10: return same("wronged", x.wronged(), model.wronged());
            case 11: return same("fault " + digs, x.fault(digs), model.fault(digs));
            case 12: return net(net);
            default: return same("count " + what, x.count(what), model.count(what));
        }
    }

    private boolean cells(int begin, int end) {
        boolean all = true;
        for (int cell = begin; cell < end && all; cell++) {
            all = same("cellOf " + cell, x.cellOf(cell), model.cellOf(cell));
        }
        return all;
    }

    private boolean claim(int claim) {
        boolean all = true;
        for (int what = 0; what < 9 && all; what++) {
            all = same("claimOf " + claim + " " + what, x.claimOf(claim, what), model.claimOf(claim, what));
        }
        return all;
    }

    private boolean net(int net) {
        boolean all = true;
        for (int what = 0; what < 12 && all; what++) {
            all = same("netOf " + net + " " + what, x.netOf(net, what), model.netOf(net, what));
        }
        return all;
    }

    private boolean writeOnce() {
        if (random.nextInt(6) == 0) {
            return same("clearText", x.clearText(), model.clearText());
        }
        String order;
        switch (random.nextInt(8)) {
            case 0: order = "l" + netNumber() + ";"; break;
            case 1: order = "r" + netNumber() + ";"; break;
            case 2: order = "d0" + netNumber() + ";"; break;
            case 3: order = "d" + netNumber() + ";"; break;
            case 4: order = "a" + claimNumber() + ";"; break;
            case 5: order = "h;"; break;
            case 6: order = "w" + random.nextInt(60) + ";"; break;
            default: order = "" + (char) (31 + random.nextInt(97)); break;
        }
        boolean all = true;
        for (int i = 0; i < order.length() && all; i++) {
            int c = or(order.charAt(i));
            all = same("type " + c, x.type(c), model.type(c));
        }
        int what = random.nextInt(2);
        return all && same("fault " + what, x.fault(what), model.fault(what))
            && (random.nextBoolean() || same("play", x.play(), model.play()));
    }
}
