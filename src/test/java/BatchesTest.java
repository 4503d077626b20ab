/** Promises 11 to 19: batches, their order, plans. */
public final class BatchesTest {
    private static final int BAD = LinenTunnel.BAD, FULL = LinenTunnel.FULL, NOT = LinenTunnel.NOT;
    private static final int NONE = LinenTunnel.NONE;
    private static final Due due = new Due("BatchesTest");

    public static void main(String[] args) {
        batches();
        batchRefusals();
        twelveBatches();
        ofAndAt();
        swaps();
        undos();
        gaps();
        gapsOfAnOrder();
        plans();
        plansOfLikeCost();
        greedies();
        due.end();
    }

    private static void batches() {
        LinenTunnel x = house(30, 2);
        due.is("batch: two at most", x.batch(0, -1, 2), 2);
        due.is("batch: of owner 1", x.batch(0, 1, 20), 14);
        due.is("batch: the rest", x.batch(0, -1, 20), 14);
        due.is("batch: none left", x.batch(0, -1, 20), NOT);
        due.is("batch: three wait", x.count(2), 3);
        due.is("batch: place of a piece", x.about(7, 3), 2);
        due.is("batch: BATCH of piece 0", x.about(0, 5), 0);
        due.is("batch: BATCH of piece 1", x.about(1, 5), 0);
        due.is("batch: BATCH of piece 2", x.about(2, 5), 2);
        due.is("batch: BATCH of piece 3", x.about(3, 5), 1);
        LinenTunnel y = house(30, 1);
        due.is("batch: 20 at most", y.batch(0, -1, 20), 20);
        due.is("batch: number 20 is left", y.about(20, 3), 1);
    }

    private static void batchRefusals() {
        LinenTunnel x = house(4, 1);
        x.kind(0, 0, false, 0, 0);
        due.is("batch: kind -1", x.batch(-1, -1, 1), BAD);
        due.is("batch: kind 2", x.batch(2, -1, 1), BAD);
        due.is("batch: owner -2", x.batch(0, -2, 1), BAD);
        due.is("batch: owner 6", x.batch(0, 6, 1), BAD);
        due.is("batch: most 0", x.batch(0, -1, 0), BAD);
        due.is("batch: most 21", x.batch(0, -1, 21), BAD);
        due.is("batch: none of the kind", x.batch(1, -1, 1), NOT);
        due.is("batch: none of the owner", x.batch(0, 5, 1), NOT);
        due.is("batch: none waits", x.count(2), 0);
        due.is("batch: four are SOILED yet", x.pieces(-1, -1, 1), 4);
        x.lost(0);
        due.is("batch: not one that is LOST", x.batch(0, -1, 20), 3);
    }

    private static void twelveBatches() {
        LinenTunnel x = house(20, 1);
        for (int b = 0; b < 12; b++) {
            due.is("batch " + b, x.batch(0, -1, 1), 1);
        }
        due.is("batch: BAD is ahead of FULL", x.batch(0, -1, 0), BAD);
        due.is("batch: the thirteenth", x.batch(0, -1, 1), FULL);
        due.is("batch: FULL is ahead of NOT", x.batch(0, 5, 1), FULL);
        due.is("batch: twelve wait", x.count(2), 12);
        due.is("batch: eight are left", x.pieces(-1, -1, 1), 8);
        due.is("at(11)", x.at(11), 11);
        due.is("at(12)", x.at(12), NONE);
        due.is("wash of twelve", x.wash(), 16);
        due.is("batch: there is room again", x.batch(0, -1, 1), 1);
        due.is("batch: it is number 0", x.about(12, 5), 0);
    }

    private static void ofAndAt() {
        LinenTunnel x = house(6, 2);
        x.kind(1, 1, false, 0, 0);
        x.piece(1, 3, true);
        x.hand(6);
        x.batch(0, 1, 20);
        x.batch(1, -1, 20);
        x.batch(0, 0, 2);
        due.is("of: kind of 0", x.of(0, 0), 0);
        due.is("of: kind of 1", x.of(1, 0), 1);
        due.is("of: size of 0", x.of(0, 1), 3);
        due.is("of: size of 2", x.of(2, 1), 2);
        due.is("of: place of 2", x.of(2, 2), 2);
        due.is("of: first piece of 0", x.of(0, 10), 1);
        due.is("of: third piece of 0", x.of(0, 12), 5);
        due.is("of: fourth piece of 0", x.of(0, 13), BAD);
        due.is("of: the piece of 1", x.of(1, 10), 6);
        due.is("of: second piece of 2", x.of(2, 11), 2);
        due.is("of: what 3", x.of(0, 3), BAD);
        due.is("of: what 9", x.of(0, 9), BAD);
        due.is("of: what -1", x.of(0, -1), BAD);
        due.is("of: batch 3", x.of(3, 0), BAD);
        due.is("of: batch -1", x.of(-1, 0), BAD);
        due.is("at: -1", x.at(-1), NONE);
        due.is("at: 3", x.at(3), NONE);
        x.swap(0, 2);
        due.is("of: place of 0 then", x.of(0, 2), 2);
        due.is("of: place of 2 then", x.of(2, 2), 0);
    }

    private static void swaps() {
        LinenTunnel x = house(3, 1);
        due.is("swap: nothing waits", x.swap(0, 0), BAD);
        x.batch(0, -1, 1);
        x.batch(0, -1, 1);
        x.batch(0, -1, 1);
        due.is("swap: 0, 2", x.swap(0, 2), 1);
        checkOrder("swap 0, 2", x, 2, 1, 0);
        due.is("swap: a place with itself", x.swap(1, 1), 1);
        due.is("swap: 1, 0", x.swap(1, 0), 1);
        checkOrder("swap 1, 0", x, 1, 2, 0);
        due.is("swap: i -1", x.swap(-1, 0), BAD);
        due.is("swap: i 3", x.swap(3, 0), BAD);
        due.is("swap: j -1", x.swap(0, -1), BAD);
        due.is("swap: j 3", x.swap(0, 3), BAD);
        checkOrder("swaps that are refused", x, 1, 2, 0);
    }

    private static void undos() {
        LinenTunnel x = house(8, 1);
        x.kind(1, 1, false, 0, 0);
        x.piece(1, 3, true);
        x.hand(8);
        due.is("undo: nothing waits", x.undo(), NOT);
        x.batch(0, -1, 3);
        x.batch(0, -1, 2);
        x.batch(1, -1, 1);
        x.batch(0, -1, 1);
        x.swap(1, 3);
        checkOrder("swap", x, 0, 3, 2, 1);
        due.is("undo: BATCH 1", x.undo(), 3);
        checkOrder("undo", x, 0, 2, 1);
        due.is("undo: its piece is SOILED", x.about(3, 3), 1);
        due.is("undo: its piece is in none", x.about(3, 5), NONE);
        due.is("undo: of a later one", x.about(8, 5), 1);
        due.is("undo: of the last one", x.about(5, 5), 2);
        due.is("undo: of an earlier one", x.about(0, 5), 0);
        due.is("undo: kind of 1", x.of(1, 0), 1);
        due.is("undo: size of 1", x.of(1, 1), 1);
        due.is("undo: kind of 2", x.of(2, 0), 0);
        due.is("undo: a piece of 2", x.of(2, 10), 5);
        due.is("undo: number 3 is gone", x.of(3, 0), BAD);
        due.is("undo: washes are as they were", x.about(3, 4), 0);
        due.is("batch: comes back as the last", x.batch(0, -1, 20), 4);
        due.is("batch: with number 3", x.of(3, 10), 3);
        checkOrder("batch", x, 0, 2, 1, 3);
        due.is("undo", x.undo(), 3);
        due.is("undo", x.undo(), 2);
        due.is("undo", x.undo(), 1);
        due.is("undo: the last", x.undo(), 0);
        due.is("undo: all are SOILED", x.pieces(-1, -1, 1), 9);
        due.is("undo: none is left", x.undo(), NOT);
    }

    private static void gaps() {
        LinenTunnel x = new LinenTunnel();
        x.kind(0, 0, false, 0, 0);
        x.kind(1, 1, false, 0, 0);
        x.kind(2, 2, true, 0, 0);
        x.kind(3, 0, false, 0, 0);
        x.kind(0, 0, true, 0, 0);
        int[][] want = {
            {0, 0, 1, 1, 0},
            {1, 0, 0, 2, 1},
            {5, 3, 0, 4, 3},
            {1, 1, 0, 0, 1},
            {2, 2, 1, 3, 0},
        };
        for (int a = 0; a < 5; a++) {
            for (int b = 0; b < 5; b++) {
                due.is("between(" + a + ", " + b + ")", x.between(a, b), want[a][b]);
            }
        }
        due.is("between: a -1", x.between(-1, 0), BAD);
        due.is("between: a 5", x.between(5, 0), BAD);
        due.is("between: b -1", x.between(0, -1), BAD);
        due.is("between: b 5", x.between(0, 5), BAD);
    }

    private static void gapsOfAnOrder() {
        LinenTunnel x = colours(2, 1, 0);
        due.is("empties: dark, light, white", x.empties(), 2);
        x.swap(0, 1);
        due.is("empties: light, dark, white", x.empties(), 2);
        x.swap(0, 2);
        due.is("empties: white, dark, light", x.empties(), 1);
        x.swap(1, 2);
        due.is("empties: white, light, dark", x.empties(), 0);
        LinenTunnel y = house(1, 1);
        due.is("empties: none waits", y.empties(), 0);
        y.batch(0, -1, 1);
        due.is("empties: one waits", y.empties(), 0);
    }

    private static void plans() {
        LinenTunnel x = colours(2, 0, 1, 2, 1, 0);
        due.is("plan: six", x.plan(), 0);
        checkOrder("plan: six", x, 1, 5, 2, 4, 0, 3);
        due.is("plan: empties", x.empties(), 0);
        due.is("plan: once more", x.plan(), 0);
        checkOrder("plan: once more", x, 1, 5, 2, 4, 0, 3);
        LinenTunnel y = house(12, 1);
        due.is("plan: none waits", y.plan(), 0);
        for (int b = 0; b < 8; b++) {
            y.batch(0, -1, 1);
        }
        y.swap(0, 7);
        due.is("plan: eight of a kind", y.plan(), 0);
        checkOrder("plan: eight of a kind", y, 0, 1, 2, 3, 4, 5, 6, 7);
        y.batch(0, -1, 1);
        y.swap(0, 8);
        due.is("plan: nine wait", y.plan(), NOT);
        checkOrder("plan: nine wait", y, 8, 1, 2, 3, 4, 5, 6, 7, 0);
    }

    private static void plansOfLikeCost() {
        // heats 0, 3 and 1: one empty at least, and both 1, 0, 2 and 2, 0, 1 cost one
        LinenTunnel x = new LinenTunnel();
        x.kind(0, 0, false, 0, 0);
        x.kind(3, 0, false, 0, 0);
        for (int k : new int[] {1, 0, 0}) {
            x.piece(k, 0, true);
        }
        for (int p = 0; p < 3; p++) {
            x.hand(p);
        }
        x.batch(1, -1, 1);
        x.batch(0, -1, 1);
        x.batch(0, -1, 1);
        x.swap(0, 2);
        due.is("plan: of like ones", x.plan(), 1);
        checkOrder("plan: of like ones", x, 0, 1, 2);
        // cheapest last: a foul dark one ahead of a white one would cost four
        LinenTunnel y = new LinenTunnel();
        y.kind(0, 2, true, 0, 0);
        y.kind(0, 0, false, 0, 0);
        y.piece(0, 0, true);
        y.piece(1, 0, true);
        y.hand(0);
        y.hand(1);
        y.batch(0, -1, 1);
        y.batch(1, -1, 1);
        due.is("plan: before it", y.empties(), 4);
        due.is("plan: the foul one last", y.plan(), 0);
        checkOrder("plan: the foul one last", y, 1, 0);
    }

    private static void greedies() {
        LinenTunnel x = colours(2, 0, 1, 2, 1, 0);
        due.is("greedy: from the dark one", x.greedy(), 2);
        checkOrder("greedy: from the dark one", x, 0, 3, 2, 4, 1, 5);
        x.swap(0, 4);
        due.is("greedy: from a white one", x.greedy(), 2);
        checkOrder("greedy: from a white one", x, 1, 0, 3, 2, 4, 5);
        LinenTunnel y = house(12, 1);
        due.is("greedy: none waits", y.greedy(), 0);
        for (int b = 0; b < 12; b++) {
            y.batch(0, -1, 1);
        }
        y.swap(0, 11);
        due.is("greedy: twelve of a kind", y.greedy(), 0);
        checkOrder("greedy: twelve of a kind", y, 11, 0, 1, 2, 3, 4, 5, 6, 7, 8, 9, 10);
    }

    private static void checkOrder(String call, LinenTunnel x, int... want) {
        due.is(call + ": how many wait", x.count(2), want.length);
        for (int place = 0; place < want.length; place++) {
            due.is(call + ": at(" + place + ")", x.at(place), want[place]);
        }
    }

    /** One kind, so many soiled pieces of so many owners in turn. */
    private static LinenTunnel house(int pieces, int owners) {
        LinenTunnel x = new LinenTunnel();
        x.kind(0, 0, false, 0, 0);
        for (int p = 0; p < pieces; p++) {
            x.piece(0, p % owners, true);
            x.hand(p);
        }
        return x;
    }

    /** Kinds 0 to 2 are white, light and dark; a batch of one piece for each colour told. */
    private static LinenTunnel colours(int... told) {
        LinenTunnel x = new LinenTunnel();
        for (int colour = 0; colour < 3; colour++) {
            x.kind(0, colour, false, 0, 0);
        }
        for (int p = 0; p < told.length; p++) {
            x.piece(told[p], 0, true);
            x.hand(p);
            x.batch(told[p], -1, 1);
        }
        return x;
    }
}
