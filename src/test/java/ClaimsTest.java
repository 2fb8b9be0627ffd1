import java.util.List;

/** Promises 20 to 24: claimOf, docketAt, wronged, count, undo. */
public final class ClaimsTest {
    public static void main(String[] args) {
        claimOf();
        lossBySettings();
        docketAt();
        wronged();
        count();
        undoEachChange();
        undoOfErrors();
        fullHistory();
        undoKeepsText();
        Check.finish();
    }

    private static void claimOf() {
        WireDigs x = Scenes.gate(2, 100, 1, 20);
        x.lay(0);
        Check.due("no claim", x.claimOf(0, 0), Scenes.INVALID);
        x.dig(1);
        Scenes.dueClaim(x, 0, 0, 1, 7, 0, 18, 42, 0, 0);
        x.dig(0);
        Scenes.dueClaim(x, 1, 1, 0, 13, 4, 15, 90, 0, 0);
        x.appeal(0);
        x.pass(3);
        Scenes.dueClaim(x, 0, 0, 1, 7, 0, 18, 42, 1, 5);
        Check.due("what below", x.claimOf(0, -1), Scenes.INVALID);
        Check.due("what above", x.claimOf(0, 8), Scenes.INVALID);
        Check.due("claim below", x.claimOf(-1, 0), Scenes.INVALID);
        Check.due("claim above", x.claimOf(2, 0), Scenes.INVALID);
        Check.due("claim far above", x.claimOf(12, 0), Scenes.INVALID);
    }

    private static void lossBySettings() {
        WireDigs x = Scenes.gate(2, 100, 1, 20);
        x.lay(0);
        x.dig(1);
        x.dig(0);
        x.set(2, 0);
        Check.due("vias alone", x.claimOf(1, 5), 12);
        x.set(0, 20);
        Check.due("dearer vias", x.claimOf(1, 5), 80);
        x.set(2, 50);
        Check.due("cells and vias", x.claimOf(1, 5), 730);
        Check.due("cells alone", x.claimOf(0, 5), 350);
        Check.due("vias then are the same", x.claimOf(1, 3), 4);
    }

    private static void docketAt() {
        WireDigs x = Scenes.gate(0, 0, 0, 0);
        x.set(1, 0);
        x.set(3, 20);
        x.lay(0);
        for (int i = 0; i < 4; i++) {
            x.dig(1 - i % 2);
        }
        // Claims 0 and 2 are for 7 cells, 1 and 3 for 13 cells and 4 vias.
        Check.due("nothing is appealed", x.docketAt(0), Scenes.MISSING);
        Check.due("index below", x.docketAt(-1), Scenes.INVALID);
        x.appeal(2);
        x.appeal(3);
        x.appeal(0);
        dueDocket(x, 3, 0, 2);
        x.appeal(1);
        dueDocket(x, 1, 3, 0, 2);
        x.hear();
        dueDocket(x, 3, 0, 2);
        Check.due("far above", x.docketAt(Integer.MAX_VALUE), Scenes.MISSING);
        WireDigs y = Scenes.twoGates(0, 0, 50);
        y.lay(0);
        y.lay(1);
        y.dig(2);
        y.appeal(1);
        y.appeal(0);
        dueDocket(y, 0, 1);
        WireDigs z = docketBySettings();
        dueDocket(z, 0, 1);
        z.set(0, 20);
        dueDocket(z, 1, 0);
        z.set(0, 3);
        dueDocket(z, 0, 1);
    }

    /** Claim 0 is for 7 cells, claim 1 for 5 cells and 2 vias: the via's cost decides. */
    private static WireDigs docketBySettings() {
        WireDigs z = new WireDigs();
        Scenes.wall(z, 2);
        z.set(1, 0);
        z.net(36, 44, -1, 0, 0);
        z.net(28, 30, -1, 0, 0);
        z.lay(0);
        z.dig(1);
        z.dig(0);
        z.appeal(0);
        z.appeal(1);
        Scenes.dueClaim(z, 0, 0, 1, 7, 0, 0, 42, 1);
        Scenes.dueClaim(z, 1, 1, 0, 5, 2, 0, 36, 1);
        return z;
    }

    private static void dueDocket(WireDigs x, int... claims) {
        for (int i = 0; i < claims.length; i++) {
            Check.due("docketAt(" + i + ")", x.docketAt(i), claims[i]);
        }
        Check.due("docketAt(end)", x.docketAt(claims.length), Scenes.MISSING);
    }

    private static void wronged() {
        WireDigs x = Scenes.gate(2, 100, 1, 20);
        x.lay(0);
        Check.due("no claims", x.wronged(), 0);
        x.dig(1);
        Check.due("net 0 got less than its loss", x.wronged(), 1);
        x.set(2, 2);
        Check.due("by the settings now it did not", x.wronged(), 0);
        x.set(2, 3);
        Check.due("by one coin only", x.claimOf(0, 5) - x.claimOf(0, 4), 3);
        Check.due("it did", x.wronged(), 1);
        x.dig(0);
        Check.due("net 1 now, net 0 is joined", x.wronged(), 2);
        WireDigs y = Scenes.gate(2, 100, 1, 20);
        y.set(1, 4);
        y.set(2, 2);
        y.lay(0);
        y.set(1, 2);
        y.set(0, 2);
        y.dig(1);
        Check.due("loss", y.claimOf(0, 5), 14);
        Check.due("paid less", y.claimOf(0, 4), 12);
        y.give(1, 100);
        y.appeal(0);
        y.hear();
        Check.due("paid just the loss", y.claimOf(0, 4), 14);
        Check.due("not joined, but not wronged", y.wronged(), 0);
        y.set(2, 5);
        Check.due("settled claims count, too", y.wronged(), 1);
    }

    private static void count() {
        WireDigs x = Scenes.gate(2, 100, 1, 20);
        Check.due("blocked", x.count(2), 8);
        x.lay(0);
        Check.due("appeals", x.count(5), 0);
        x.dig(1);
        x.appeal(0);
        x.net(0, 2, -1, 0, 7);
        x.net(1, 73, -1, 0, 0);
        x.lay(2);
        x.lay(3);
        Scenes.typeAll(x, "what");
        // Net 3 runs above net 2 (place 10) and net 1 (place 28); the vias of one net don't count.
        int[] counts = {4, 3, 8, 105, 1, 1, 5, 127, 25, 2, 4, 4};
        for (int what = 0; what < counts.length; what++) {
            Check.due("count(" + what + ")", x.count(what), counts[what]);
        }
        for (int what = 0; what < 4; what++) {
            x.set(what, 11 + what);
            Check.due("count of a setting", x.count(20 + what), 11 + what);
        }
        for (int what = 12; what < 20; what++) {
            Check.due("count(" + what + ")", x.count(what), Scenes.INVALID);
        }
        Check.due("count(-1)", x.count(-1), Scenes.INVALID);
        Check.due("count(24)", x.count(24), Scenes.INVALID);
        x.hear();
        Check.due("appeals after the hearing", x.count(5), 0);
        Check.due("claims after the hearing", x.count(4), 1);
    }

    private static void undoEachChange() {
        for (int kind = 0; kind < 12; kind++) {
            List<Integer> before = Snapshot.ofChip(beforeChange(kind));
            WireDigs x = beforeChange(kind);
            Check.due("states", x.count(10), 4);
            Check.dueThat("change of kind " + kind, change(x, kind) >= 0);
            Check.dueThat("something is changed by kind " + kind, !before.equals(Snapshot.ofChip(x)));
            WireDigs y = beforeChange(kind);
            change(y, kind);
            Check.due("states", y.count(10), 4);
            Check.due("undo of kind " + kind, y.undo(), 3);
            Check.dueThat("all is as before kind " + kind, before.equals(Snapshot.ofChip(y)));
            Check.dueThat("the same again by kind " + kind, change(y, kind) >= 0);
        }
    }

    private static WireDigs beforeChange(int kind) {
        WireDigs x = Scenes.gate(2, 100, 1, 20);
        x.net(45, 48, -1, 0, 0);
        x.lay(0);
        x.dig(1);
        if (kind == 8 || kind == 11) {
            x.appeal(0);
        }
        Scenes.typeAll(x, "r1;l1;h;");
        return x;
    }

    private static int change(WireDigs x, int kind) {
        switch (kind) {
            case 0: return x.set(2, 50);
            case 1: return x.block(80, 1);
            case 2: return x.net(0, 1, 2, 3, 4);
            case 3: return x.give(0, 5);
            case 4: return x.block(0, 1);
            case 5: return x.dig(0);
            case 6: return x.rip(1);
            case 7: return x.appeal(0);
            case 8: return x.hear();
            case 9: return x.pass(50);
            case 10: return x.lay(2);
            default: return x.play();
        }
    }

    private static void undoOfErrors() {
        WireDigs x = new WireDigs();
        Check.due("empty", x.undo(), Scenes.IMPOSSIBLE);
        x.set(0, 0);
        x.block(0, 0);
        x.net(0, 0, 0, 0, 0);
        x.give(0, 1);
        x.lay(0);
        x.dig(0);
        x.rip(0);
        x.appeal(0);
        x.hear();
        x.pass(0);
        Scenes.typeAll(x, "l0;");
        x.play();
        x.clearText();
        x.fault(0);
        x.bestOrder(-1);
        Check.due("errors, texts and questions are no changes", x.count(10), 0);
        Check.due("still empty", x.undo(), Scenes.IMPOSSIBLE);
        Check.due("play without orders is a change", x.play(), 0);
        Check.due("states", x.count(10), 1);
        Check.due("undo is none", x.undo(), 0);
        Check.due("empty again", x.undo(), Scenes.IMPOSSIBLE);
    }

    private static void fullHistory() {
        WireDigs x = new WireDigs();
        for (int i = 1; i <= 6; i++) {
            x.pass(i);
            Check.due("states", x.count(10), Math.min(i, 4));
        }
        Check.due("acts", x.count(6), 21);
        Check.due("undo", x.undo(), 3);
        Check.due("acts", x.count(6), 15);
        Check.due("undo", x.undo(), 2);
        Check.due("acts", x.count(6), 10);
        x.pass(50);
        Check.due("states", x.count(10), 3);
        Check.due("undo", x.undo(), 2);
        Check.due("acts", x.count(6), 10);
        Check.due("undo", x.undo(), 1);
        Check.due("undo", x.undo(), 0);
        Check.due("the oldest states were dropped", x.count(6), 3);
        Check.due("no more", x.undo(), Scenes.IMPOSSIBLE);
        Check.due("nothing is undone by an error", x.count(6), 3);
        Check.due("a change after that", x.pass(1), 4);
        Check.due("states", x.count(10), 1);
    }

    private static void undoKeepsText() {
        WireDigs x = new WireDigs();
        Scenes.typeAll(x, "w1;");
        x.play();
        x.type('w');
        Check.due("undo", x.undo(), 0);
        Check.due("acts", x.count(6), 0);
        Check.due("the text stays", x.count(11), 4);
        x.pass(1);
        x.clearText();
        x.undo();
        Check.due("it does not come back", x.count(11), 0);
    }
}
