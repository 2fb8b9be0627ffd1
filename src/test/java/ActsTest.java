/** Promises 9 to 14: lay, dig, rip, appeal, hear, pass, and the term "Claims". */
public final class ActsTest {
    public static void main(String[] args) {
        lay();
        dig();
        digErrors();
        digTwoNets();
        digBack();
        claimLimit();
        rip();
        appeal();
        patience();
        appealsOfLater();
        hearPaidInFull();
        hearNothingDue();
        hearExactly();
        hearReturnsWire();
        hearReturnsWireOfLaterClaim();
        hearReturnsWireInCorner();
        hearWireNotFree();
        hearHolderJoined();
        hearDiggerNotJoined();
        hearByGreatestLoss();
        pass();
        passLimit();
        Check.finish();
    }

    private static void lay() {
        WireDigs x = Scenes.gate(2, 100, 1, 20);
        Check.due("lay", x.lay(0), 8);
        Check.due("joined nets", x.count(1), 1);
        Check.due("acts", x.count(6), 1);
        Check.due("lay costs no coins", x.netOf(0, 4), 100);
        Check.due("lay again", x.lay(0), Scenes.IMPOSSIBLE);
        Check.due("lay without a route", x.lay(1), Scenes.IMPOSSIBLE);
        Check.due("no such net", x.lay(2), Scenes.INVALID);
        Check.due("no such net", x.lay(-1), Scenes.INVALID);
        Check.due("acts after errors", x.count(6), 1);
        WireDigs y = new WireDigs();
        y.net(0, 1, 2, 0, 0);
        Check.due("lay along pins alone", y.lay(0), 2);
        Check.due("a wire of no cells", y.netOf(0, 6), 0);
        Check.due("joined", y.netOf(0, 5), 1);
        Check.due("rip it", y.rip(0), 0);
        Check.due("not joined", y.netOf(0, 5), 0);
    }

    private static void dig() {
        WireDigs x = Scenes.gate(2, 100, 1, 20);
        x.lay(0);
        Check.due("dig", x.dig(1), 18);
        Scenes.dueNet(x, 0, 118, 0, 1, 0, 18);
        Scenes.dueNet(x, 1, 2, 1, 0, 18, 0);
        Scenes.dueWire(x, 1, 28, 29, 30, 32, 33, 34, 39, 40, 41, 111, 113, 120, 122);
        Check.due("vias", x.netOf(1, 7), 4);
        Check.due("all of the other wire is lost", x.cellOf(37), Scenes.MISSING);
        Scenes.dueWire(x, 0);
        Scenes.dueClaim(x, 0, 0, 1, 7, 0, 18, 42, 0, 0);
        Check.due("claims", x.count(4), 1);
        Check.due("appeals", x.count(5), 0);
        Check.due("acts", x.count(6), 2);
        Check.due("coins", x.count(7), 120);
        Check.due("dig when joined", x.dig(1), Scenes.IMPOSSIBLE);
    }

    private static void digErrors() {
        WireDigs x = Scenes.gate(2, 100, 1, 17);
        x.lay(0);
        Check.due("the purse does not do", x.dig(1), Scenes.IMPOSSIBLE);
        Check.due("nothing is paid", x.netOf(1, 4), 17);
        Check.due("nothing is lost", x.netOf(0, 6), 7);
        Check.due("no act", x.count(6), 1);
        x.give(1, 1);
        Check.due("the purse just does", x.dig(1), 18);
        Check.due("it is empty then", x.netOf(1, 4), 0);
        Check.due("no such net", x.dig(2), Scenes.INVALID);
        Check.due("no such net", x.dig(-1), Scenes.INVALID);
        x.rip(1);
        x.block(40, 1);
        Check.due("no route", x.dig(1), Scenes.IMPOSSIBLE);
        WireDigs y = Scenes.gate(0, 5, 0, 0);
        Check.due("dig through free cells", y.dig(0), 0);
        Check.due("no claims", y.count(4), 0);
        Check.due("an act", y.count(6), 1);
    }

    private static void digTwoNets() {
        WireDigs x = Scenes.twoGates(5, 0, 50);
        x.lay(0);
        x.lay(1);
        Check.due("dig", x.dig(2), 39);
        Scenes.dueNet(x, 0, 27, 0, 1, 0, 27);
        Scenes.dueNet(x, 1, 12, 0, 1, 0, 12);
        Scenes.dueNet(x, 2, 11, 1, 0, 39, 0);
        Scenes.dueClaim(x, 0, 0, 2, 5, 2, 27, 36, 0, 0);
        Scenes.dueClaim(x, 1, 1, 2, 5, 2, 12, 36, 0, 0);
        Check.due("one act", x.count(6), 3);
        Check.due("wronged", x.wronged(), 3);
    }

    private static void digBack() {
        WireDigs x = Scenes.gate(2, 100, 1, 20);
        x.lay(0);
        x.dig(1);
        Check.due("dig back", x.dig(0), 15);
        Scenes.dueNet(x, 0, 103, 1, 1, 15, 18);
        Scenes.dueNet(x, 1, 17, 0, 1, 18, 15);
        Scenes.dueClaim(x, 0, 0, 1, 7, 0, 18, 42, 0, 1);
        Scenes.dueClaim(x, 1, 1, 0, 13, 4, 15, 90, 0, 0);
        Check.due("dig again", x.dig(1), Scenes.IMPOSSIBLE);
        x.give(1, 1);
        Check.due("dig again with one coin more", x.dig(1), 18);
        Check.due("dug up twice", x.netOf(0, 8), 2);
        Check.due("paid so far", x.netOf(1, 9), 36);
        Check.due("received so far", x.netOf(0, 10), 36);
    }

    private static void claimLimit() {
        WireDigs x = Scenes.gate(0, 0, 0, 0);
        x.set(1, 0);
        x.lay(0);
        for (int i = 0; i < 12; i++) {
            Check.due("digging " + i, x.dig(1 - i % 2), 0);
        }
        Check.due("claims", x.count(4), 12);
        Check.due("the last claim", x.claimOf(11, 0), 1);
        Check.due("a thirteenth claim", x.dig(1), Scenes.LIMIT);
        Check.due("nothing is lost", x.netOf(0, 5), 1);
        Check.due("acts", x.count(6), 13);
        Check.due("what it would pay is told", x.victims(1), 1);
        x.set(1, 1);
        Check.due("not possible rather than limit", x.dig(1), Scenes.IMPOSSIBLE);
        Check.due("joined rather than limit", x.dig(0), Scenes.IMPOSSIBLE);
        Check.due("invalid rather than limit", x.dig(2), Scenes.INVALID);
        x.rip(0);
        Check.due("digging without a new claim", x.dig(1), 0);
        Check.due("claims", x.count(4), 12);
        WireDigs y = Scenes.twoGates(0, 0, 0);
        y.set(1, 0);
        y.lay(0);
        y.lay(1);
        y.net(46, 48, -1, 0, 0);
        for (int i = 0; i < 11; i++) {
            // Net 3, which needs the hole of net 0, and net 0 by turns: one claim each time.
            Check.due("one claim more", y.dig(i % 2 == 0 ? 3 : 0), 0);
        }
        Check.due("eleven claims", y.count(4), 11);
        Check.due("two more would be too many", y.dig(2), Scenes.LIMIT);
        y.rip(1);
        Check.due("one more is not", y.dig(2), 0);
        Check.due("twelve claims", y.count(4), 12);
    }

    private static void rip() {
        WireDigs x = Scenes.gate(2, 100, 1, 20);
        Check.due("not joined", x.rip(0), Scenes.IMPOSSIBLE);
        x.lay(0);
        Check.due("rip", x.rip(0), 7);
        Scenes.dueNet(x, 0, 100, 0, 0, 0, 0);
        Scenes.dueWire(x, 0);
        Check.due("no claim", x.count(4), 0);
        Check.due("acts", x.count(6), 2);
        Check.due("rip again", x.rip(0), Scenes.IMPOSSIBLE);
        Check.due("no such net", x.rip(2), Scenes.INVALID);
        Check.due("no such net", x.rip(-1), Scenes.INVALID);
        Check.due("pins stay", x.cellOf(36), 10);
        Check.due("the other one can be laid", x.lay(1), 22);
    }

    private static void appeal() {
        WireDigs x = Scenes.twoGates(5, 0, 50);
        x.lay(0);
        x.lay(1);
        Check.due("no claim yet", x.appeal(0), Scenes.INVALID);
        x.dig(2);
        Check.due("appeal(1)", x.appeal(1), 1);
        Check.due("state", x.claimOf(1, 6), 1);
        Check.due("state of the other one", x.claimOf(0, 6), 0);
        Check.due("appeal again", x.appeal(1), Scenes.IMPOSSIBLE);
        Check.due("appeal(0)", x.appeal(0), 2);
        Check.due("appeals", x.count(5), 2);
        Check.due("acts", x.count(6), 5);
        x.hear();
        Check.due("appeal what is settled", x.appeal(0), Scenes.IMPOSSIBLE);
        Check.due("appeals that are left", x.count(5), 1);
        Check.due("no such claim", x.appeal(2), Scenes.INVALID);
        Check.due("no such claim", x.appeal(-1), Scenes.INVALID);
        Check.due("no such claim", x.appeal(12), Scenes.INVALID);
        Check.due("no such claim", x.appeal(Integer.MAX_VALUE), Scenes.INVALID);
    }

    private static void patience() {
        WireDigs x = Scenes.gate(2, 100, 1, 20);
        x.lay(0);
        x.dig(1);
        x.pass(7);
        Check.due("seven acts", x.claimOf(0, 7), 7);
        Check.due("too many", x.appeal(0), Scenes.IMPOSSIBLE);
        x.set(3, 7);
        Check.due("by the patience as it is now", x.appeal(0), 1);
        WireDigs y = Scenes.gate(2, 100, 1, 20);
        y.lay(0);
        y.dig(1);
        y.pass(6);
        Check.due("just as many as the patience", y.appeal(0), 1);
        Check.due("acts gone by", y.claimOf(0, 7), 7);
        Check.due("appealed", y.claimOf(0, 6), 1);
        Check.due("it is heard later, too", y.pass(50), 59);
        Check.due("hear", y.hear(), 2);
    }

    private static void appealsOfLater() {
        WireDigs x = Scenes.gate(0, 0, 0, 0);
        x.set(1, 0);
        x.set(3, 1);
        x.lay(0);
        x.dig(1);
        x.rip(1);
        Check.due("one act has gone by", x.claimOf(0, 7), 1);
        Check.due("calls that are no acts", x.give(0, 1), 1);
        x.set(0, 5);
        x.block(80, 1);
        x.undo();
        x.rip(1);
        Check.due("still one", x.claimOf(0, 7), 1);
        x.hear();
        Check.due("errors are no acts", x.appeal(0), 1);
    }

    private static void hearPaidInFull() {
        WireDigs x = Scenes.gate(2, 100, 1, 100);
        x.lay(0);
        x.dig(1);
        Check.due("no appeal", x.hear(), Scenes.IMPOSSIBLE);
        x.appeal(0);
        Check.due("hear", x.hear(), 24);
        Scenes.dueNet(x, 0, 142, 0, 1, 0, 42);
        Scenes.dueNet(x, 1, 58, 1, 0, 42, 0);
        Scenes.dueClaim(x, 0, 0, 1, 7, 0, 42, 42, 2, 2);
        Check.due("no appeal left", x.hear(), Scenes.IMPOSSIBLE);
        Check.due("acts", x.count(6), 4);
    }

    private static void hearNothingDue() {
        WireDigs x = Scenes.gate(2, 100, 1, 18);
        x.lay(0);
        x.dig(1);
        x.appeal(0);
        x.set(2, 2);
        Check.due("less than what was paid", x.claimOf(0, 5), 14);
        Check.due("hear", x.hear(), 0);
        Scenes.dueNet(x, 1, 0, 1, 0, 18, 0);
        Check.due("settled", x.claimOf(0, 6), 2);
        Check.due("paid", x.claimOf(0, 4), 18);
        Check.due("it is an act", x.count(6), 4);
    }

    private static void hearExactly() {
        WireDigs x = Scenes.gate(2, 100, 1, 42);
        x.lay(0);
        x.dig(1);
        x.appeal(0);
        Check.due("all it has", x.hear(), 24);
        Scenes.dueNet(x, 1, 0, 1, 0, 42, 0);
        Check.due("not joined by it", x.netOf(0, 5), 0);
    }

    private static void hearReturnsWire() {
        WireDigs x = Scenes.gate(2, 100, 1, 41);
        x.lay(0);
        x.dig(1);
        x.appeal(0);
        Check.due("one coin too few", x.hear(), 23);
        Scenes.dueNet(x, 0, 141, 1, 1, 0, 41);
        Scenes.dueNet(x, 1, 0, 0, 0, 41, 0);
        Scenes.dueWire(x, 0, 37, 38, 39, 40, 41, 42, 43);
        Scenes.dueWire(x, 1);
        Scenes.dueClaim(x, 0, 0, 1, 7, 0, 41, 42, 2, 2);
        Check.due("nobody has a claim for that", x.count(4), 1);
        Check.due("not wronged, as it is joined", x.wronged(), 0);
        Check.due("rip what came back", x.rip(0), 7);
        Check.due("wronged then", x.wronged(), 1);
    }

    private static void hearReturnsWireOfLaterClaim() {
        WireDigs x = Scenes.gate(2, 0, 1, 18);
        x.lay(0);
        x.dig(1);
        x.dig(0);
        Check.due("appeal of claim 1", x.appeal(1), 1);
        Check.due("all that is left of what net 0 was paid", x.hear(), 3);
        Check.due("net 0 loses its wire", x.netOf(0, 5), 0);
        Scenes.dueWire(x, 1, 28, 29, 30, 32, 33, 34, 39, 40, 41, 111, 113, 120, 122);
        Check.due("appeal of claim 0", x.appeal(0), 1);
        Check.due("all that net 1 has", x.hear(), 18);
        Check.due("net 1 loses its wire", x.netOf(1, 5), 0);
        Scenes.dueWire(x, 0, 37, 38, 39, 40, 41, 42, 43);
    }

    /** The wire of net 0 goes through both cells of place 0, and so does that of net 1. */
    private static void hearReturnsWireInCorner() {
        WireDigs x = new WireDigs();
        int[] blocked = {10, 12, 20, 28};
        for (int place : blocked) {
            x.block(place, 1);
        }
        x.net(3, 27, -1, 0, 0);
        x.net(11, 19, -1, 0, 24);
        Check.due("lay", x.lay(0), 9);
        Scenes.dueWire(x, 0, 0, 1, 2, 81, 90, 99);
        Check.due("via in the corner", x.netOf(0, 7), 1);
        Check.due("cells of wires", x.count(8), 6);
        Check.due("dig", x.dig(1), 24);
        Scenes.dueClaim(x, 0, 0, 1, 6, 1, 24, 39, 0, 0);
        Scenes.dueWire(x, 1, 0, 1, 2, 18, 81, 83, 90, 99);
        x.appeal(0);
        Check.due("nothing is left to pay with", x.hear(), 0);
        Scenes.dueWire(x, 0, 0, 1, 2, 81, 90, 99);
        Check.due("rip", x.rip(0), 6);
        Check.due("the corner is free", x.cellOf(0), Scenes.MISSING);
    }

    private static void hearWireNotFree() {
        WireDigs x = Scenes.gate(2, 100, 1, 41);
        x.lay(0);
        x.dig(1);
        x.block(37, 1);
        x.appeal(0);
        Check.due("hear", x.hear(), 23);
        Check.due("the digging net loses its wire", x.netOf(1, 5), 0);
        Check.due("a place is blocked now", x.netOf(0, 5), 0);
        Check.due("settled", x.claimOf(0, 6), 2);
        WireDigs y = Scenes.gate(2, 100, 1, 41);
        y.lay(0);
        y.dig(1);
        y.net(43, 70, -1, 0, 0);
        y.appeal(0);
        y.hear();
        Check.due("a pin is there now", y.netOf(0, 5), 0);
        Check.due("the other cells stay free", y.cellOf(40), Scenes.MISSING);
    }

    private static void hearHolderJoined() {
        WireDigs x = Scenes.gate(2, 100, 1, 20);
        x.lay(0);
        x.dig(1);
        x.dig(0);
        x.appeal(0);
        Check.due("hear", x.hear(), 17);
        Scenes.dueNet(x, 0, 120, 1, 1, 15, 35);
        Scenes.dueWire(x, 0, 37, 38, 39, 40, 41, 42, 43);
        Check.due("appeal of the other one", x.appeal(1), 1);
        Check.due("paid in full", x.hear(), 75);
        Check.due("stays joined", x.netOf(0, 5), 1);
    }

    private static void hearDiggerNotJoined() {
        WireDigs x = Scenes.gate(2, 100, 1, 20);
        x.lay(0);
        x.dig(1);
        x.rip(1);
        x.appeal(0);
        Check.due("hear", x.hear(), 2);
        Check.due("the wire comes back all the same", x.netOf(0, 6), 7);
        Check.due("joined", x.netOf(0, 5), 1);
        WireDigs y = Scenes.gate(2, 100, 1, 42);
        y.lay(0);
        y.dig(1);
        y.rip(1);
        y.appeal(0);
        Check.due("paid in full", y.hear(), 24);
        Check.due("the wire stays away then", y.netOf(0, 5), 0);
    }

    private static void hearByGreatestLoss() {
        WireDigs x = Scenes.gate(0, 0, 0, 0);
        x.set(1, 0);
        x.lay(0);
        x.dig(1);
        x.dig(0);
        x.dig(1);
        x.give(0, 50);
        x.give(1, 100);
        x.appeal(2);
        x.appeal(0);
        x.appeal(1);
        // The losses are 42, 90 and 42: claim 1 is heard first, which net 0 can't pay.
        Check.due("hear claim 1", x.hear(), 50);
        Check.due("claim 1 is settled", x.claimOf(1, 6), 2);
        Check.due("claim 0 is not", x.claimOf(0, 6), 1);
        Check.due("hear claim 0", x.hear(), 42);
        Check.due("claim 0 is settled", x.claimOf(0, 6), 2);
        Check.due("claim 2 is not", x.claimOf(2, 6), 1);
        Check.due("hear claim 2", x.hear(), 42);
        Check.due("no more", x.hear(), Scenes.IMPOSSIBLE);
        Scenes.dueNet(x, 0, 84, 0, 2, 50, 84);
        Scenes.dueNet(x, 1, 66, 1, 1, 84, 50);
    }

    private static void pass() {
        WireDigs x = new WireDigs();
        Check.due("pass(1)", x.pass(1), 1);
        Check.due("pass(50)", x.pass(50), 51);
        Check.due("pass(0)", x.pass(0), Scenes.INVALID);
        Check.due("pass(51)", x.pass(51), Scenes.INVALID);
        Check.due("pass(-1)", x.pass(-1), Scenes.INVALID);
        Check.due("pass(most int)", x.pass(Integer.MAX_VALUE), Scenes.INVALID);
        Check.due("acts", x.count(6), 51);
    }

    private static void passLimit() {
        WireDigs x = new WireDigs();
        x.net(0, 1, -1, 0, 0);
        Scenes.typeAll(x, "w50;w50;w50;w50;w50;w50;w50;w50;w50;w50;w50;w50;w50;w50;w50;");
        for (int i = 0; i < 133; i++) {
            x.play();
        }
        Check.due("acts", x.count(6), 99750);
        Check.due("the sixth pass is too many", x.fault(0), 20);
        Check.due("not possible otherwise", x.fault(1), 3);
        Check.due("play", x.play(), Scenes.IMPOSSIBLE);
        for (int i = 1; i <= 4; i++) {
            x.pass(50);
        }
        x.pass(49);
        Check.due("above the limit", x.pass(2), Scenes.LIMIT);
        Check.due("invalid rather than limit", x.pass(51), Scenes.INVALID);
        Check.due("to the limit", x.pass(1), 100000);
        Check.due("one more", x.pass(1), Scenes.LIMIT);
        Check.due("other acts have no limit", x.lay(0), 1);
        Check.due("acts", x.count(6), 100001);
    }
}
