import java.util.ArrayList;
import java.util.List;

/** What an object answers to questions. Asks less than 400 times: an object has 512 calls. */
final class Snapshot {
    private Snapshot() {
    }

    /** All that is there now. */
    static List<Integer> of(WireDigs x) {
        List<Integer> all = ofChip(x);
        all.add(x.count(10));
        all.add(x.count(11));
        all.add(x.fault(0));
        all.add(x.fault(1));
        return all;
    }

    /** All that a state of the history has: everything but the history itself and the text. */
    static List<Integer> ofChip(WireDigs x) {
        List<Integer> all = new ArrayList<>();
        for (int cell = 0; cell < 162; cell++) {
            all.add(x.cellOf(cell));
        }
        for (int what = 0; what <= 9; what++) {
            all.add(x.count(what));
        }
        for (int what = 20; what <= 23; what++) {
            all.add(x.count(what));
        }
        nets(x, all);
        claims(x, all);
        for (int index = -1; index < 3; index++) {
            all.add(x.bestOrder(index));
        }
        all.add(x.wronged());
        return all;
    }

    private static void nets(WireDigs x, List<Integer> all) {
        int nets = x.count(0);
        for (int net = 0; net < nets; net++) {
            for (int what = 0; what <= 10; what++) {
                all.add(x.netOf(net, what));
            }
            all.add(x.cost(net, 0));
            all.add(x.cost(net, 1));
            all.add(x.price(net));
            all.add(x.victims(net));
        }
    }

    private static void claims(WireDigs x, List<Integer> all) {
        int claims = x.count(4);
        for (int claim = 0; claim < claims; claim++) {
            for (int what = 0; what <= 7; what++) {
                all.add(x.claimOf(claim, what));
            }
        }
        int appeals = x.count(5);
        for (int index = 0; index <= appeals; index++) {
            all.add(x.docketAt(index));
        }
    }
}
