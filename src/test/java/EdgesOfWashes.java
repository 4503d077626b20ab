import java.util.function.Consumer;

/** The sentences of the terms 3 and of promises 20 to 23 that name a boundary. */
final class EdgesOfWashes {
    private static final int NONE = Edges.NONE, BAD = Edges.BAD, NOT = Edges.NOT;

    private final Edges e;

    EdgesOfWashes(Edges edges) {
        e = edges;
    }

    void all() {
        compartments();
        compartmentsAreAllPassed();
        dryers();
        irons();
        slots();
        beatsFromOne();
        heldForADryer();
        movesOnByOne();
        nextSlotIfThereIsOne();
        endsBehindTheLast();
        dryAtOnce();
        dryerWithTheLeastNumber();
        dryerTillAtMost();
        ironsByWhenDry();
        likeDryOnes();
        ironFreeFirst();
        ironNotBeforeDry();
        ironNone();
        allAreClean();
        waterOfBeatsNotHeld();
        waterByPieces();
        waterOfTheNext();
        tunnelSets();
        tunnelBad();
        washTellsBeats();
        washNot();
        washedAll();
        washedLastDone();
        washedBeforeAny();
        washedBad();
        runOfPlaces();
        runAll();
        runBad();
    }

    // ---- 3: the tunnel

    private void compartments() {
        e.sentence("Terms", "THE TUNNEL has C COMPARTMENTS (2 to 10),");
        e.range(Houses::busy, "c", 2, 10, (x, v) -> x.tunnel(v, 1, 1), v -> 1);
        for (int c = 2; c <= 10; c++) {
            LinenTunnel x = Houses.tunnel(c, 4, 3);
            e.is("of " + c, x.count(3), c);
        }
    }

    private void compartmentsAreAllPassed() {
        e.sentence("Terms", "0 .. C - 1,");
        for (int c = 2; c <= 10; c++) {
            LinenTunnel x = plainTunnel(c, 1, 1, 0, 0);
            Houses.addBatches(x, 0);
            e.is("beats of one batch in " + c, x.wash(), c + 1);
            e.run("one batch in " + c, x, 0, 0, 1, c + 1, NONE, c + 1, NONE, c + 1);
            e.is("water of each of " + c, x.washed(3), 10 * c);
        }
    }

    private void dryers() {
        e.sentence("Terms", "D DRYERS (1 to 4),");
        e.range(Houses::busy, "d", 1, 4, (x, v) -> x.tunnel(2, v, 1), v -> 1);
        for (int d = 1; d <= 4; d++) {
            LinenTunnel x = plainTunnel(2, d, 1, 9, 0);
            Houses.addBatches(x, new int[d + 1]);
            e.is("beats with " + d, x.wash(), 12);
            for (int k = 0; k < d; k++) {
                e.run("batch " + k + " with " + d, x, k, 0, 1 + k, 3 + k, k, 12 + k);
            }
            e.run("one batch more than " + d, x, d, 0, 1 + d, 12, 0, 21);
            e.is("held with " + d, x.washed(2), 9 - d);
        }
    }

    private void irons() {
        e.sentence("Terms", "I IRONS (1 to 3).");
        e.range(Houses::busy, "i", 1, 3, (x, v) -> x.tunnel(2, 1, v), v -> 1);
        for (int i = 1; i <= 3; i++) {
            LinenTunnel x = plainTunnel(2, 1, i, 0, 9);
            Houses.addBatches(x, new int[i + 1]);
            e.is("beats with " + i, x.wash(), 3 + i);
            for (int k = 0; k < i; k++) {
                e.run("batch " + k + " with " + i, x, k, 0, 1 + k, 3 + k, NONE, 3 + k, k, 12 + k);
            }
            e.run("one batch more than " + i, x, i, 0, 1 + i, 3 + i, NONE, 3 + i, 0, 21);
        }
    }

    private void slots() {
        e.sentence("Terms", "A WASH of THE ORDER: SLOTS are the BATCHES in order, with the EMPTIES between them.");
        int[][] kinds = {{0, 0, 0}, {0, 1, 0}, {0, 2, 0}, {0, 1, 1}, {0, 2, 1}, {2, 2, 1}};
        for (int gap = 0; gap <= 5; gap++) {
            LinenTunnel x = Houses.tunnel(2, 1, 1);
            x.kind(kinds[gap][0], kinds[gap][1], kinds[gap][2] == 1, 0, 0);
            x.kind(0, 0, false, 0, 0);
            Houses.addBatches(x, 0, 1, 0);
            int back = x.between(1, 0);
            e.is("empties " + gap, x.between(0, 1), gap);
            e.is("beats", x.wash(), 5 + gap + back);
            e.is("the first comes in", x.run(0, 1), 1);
            e.is("the next comes in", x.run(1, 1), 2 + gap);
            e.is("the last comes in", x.run(2, 1), 3 + gap + back);
            e.is("empties of the wash", x.washed(1), gap + back);
        }
        LinenTunnel y = Houses.tunnel(2, 1, 1);
        y.kind(3, 2, true, 0, 0);
        y.kind(0, 0, false, 0, 0);
        Houses.addBatches(y, 0, 1, 0, 1, 0, 1, 0, 1, 0, 1, 0, 1);
        e.is("the most of all: 12 batches, 35 empties", y.wash(), 12 + 35 + 2);
        e.run("the last of all", y, 11, 1, 47, 49);
        LinenTunnel z = Houses.after(Houses::busy);
        z.wash();
        e.run("none ahead of the first place, where number 2 stands", z, 0, 1, 1, 4);
        e.is("empties of the order 2, 1, 0", z.washed(1), 5);
    }

    private void beatsFromOne() {
        e.sentence("Terms", "BEATS 1, 2, ..:");
        LinenTunnel x = plainTunnel(2, 1, 1, 0, 0);
        Houses.addBatches(x, new int[12]);
        e.is("beats", x.wash(), 14);
        for (int k = 0; k < 12; k++) {
            e.run("batch " + k, x, k, 0, 1 + k, 3 + k);
        }
        Houses.addBatches(x, 0);
        x.wash();
        e.is("from 1 in the next wash", x.run(0, 1), 1);
    }

    private void heldForADryer() {
        e.sentence("Terms", "if the last COMPARTMENT has a BATCH whose KIND has DRY above 0, and no DRYER is free, the BEAT is HELD: nothing moves.");
        LinenTunnel x = driesOf(1, 9, 0, 9);
        e.is("DRY 0 is not held: beats", x.wash(), 12);
        e.run("DRY 0 is not held", x, 1, 1, 2, 4, NONE, 4);
        LinenTunnel y = driesOf(1, 9, 1, 0, 0);
        e.is("DRY 1 is held: beats", y.wash(), 14);
        e.run("DRY 1 is held", y, 1, 1, 2, 12, 0, 13);
        e.run("nothing moves", y, 2, 2, 3, 13);
        e.run("nothing comes in", y, 3, 3, 12, 14);
        e.is("held", y.washed(2), 8);
        LinenTunnel z = driesOf(2, 9, 1, 0, 0);
        e.is("a dryer is free: beats", z.wash(), 6);
        e.is("a dryer is free: none is held", z.washed(2), 0);
        LinenTunnel w = Houses.tunnel(2, 1, 1);
        w.kind(0, 2, false, 9, 0);
        w.kind(0, 0, false, 9, 0);
        Houses.addBatches(w, 0, 1);
        e.is("an empty compartment is not held: beats", w.wash(), 12);
        e.run("an empty compartment is not held", w, 1, 1, 4, 12);
        e.is("it is held from beat 6 on", w.washed(2), 6);
    }

    private void movesOnByOne() {
        e.sentence("Terms", "Else what is in the last COMPARTMENT goes out, each other moves on by one,");
        for (int c : new int[] {2, 3, 9, 10}) {
            LinenTunnel x = plainTunnel(c, 1, 1, 0, 0);
            Houses.addBatches(x, new int[12]);
            x.wash();
            for (int k = 0; k < 12; k++) {
                e.run("batch " + k + " in " + c, x, k, 0, 1 + k, c + 1 + k);
            }
        }
    }

    private void nextSlotIfThereIsOne() {
        e.sentence("Terms", "and the next SLOT, if there is one, comes into COMPARTMENT 0.");
        LinenTunnel x = plainTunnel(10, 1, 1, 0, 0);
        Houses.addBatches(x, 0);
        e.is("one, then ten beats without a slot", x.wash(), 11);
        e.is("one came", x.washed(5), 1);
        e.is("water of one", x.washed(3), 100);
        LinenTunnel y = plainTunnel(2, 1, 1, 0, 0);
        Houses.addBatches(y, new int[12]);
        e.is("twelve", y.wash(), 14);
        Houses.addBatches(y, 0);
        e.is("slots of a longer wash are gone", y.wash(), 3);
        e.washed("slots of a longer wash are gone", y, 3, 0, 0, 20, 3, 1, 1);
    }

    private void endsBehindTheLast() {
        e.sentence("Terms", "It ends when no SLOT is to come, and no BATCH is in a COMPARTMENT, (behind that BEAT).");
        for (int c = 2; c <= 10; c++) {
            for (int n : new int[] {1, 2, 11, 12}) {
                LinenTunnel x = plainTunnel(c, 1, 1, 0, 9);
                Houses.addBatches(x, new int[n]);
                int beats = x.wash();
                e.is(n + " batches in " + c, beats, c + n);
                e.is("the last went out", x.run(n - 1, 2), beats);
            }
        }
        LinenTunnel y = plainTunnel(2, 1, 1, 9, 9);
        Houses.addBatches(y, 0);
        e.is("drying and ironing are behind it", y.wash(), 3);
    }

    private void dryAtOnce() {
        e.sentence("Terms", "A BATCH that goes out at BEAT t: with DRY 0 it is DRY at t");
        for (int c = 2; c <= 10; c++) {
            LinenTunnel x = plainTunnel(c, 4, 1, 0, 0);
            Houses.addBatches(x, 0);
            x.wash();
            e.run("out of " + c, x, 0, 0, 1, c + 1, NONE, c + 1);
        }
    }

    private void dryerWithTheLeastNumber() {
        e.sentence("Terms", "else it takes the free DRYER with the least number till t + DRY, and is DRY then");
        for (int dry = 1; dry <= 9; dry++) {
            LinenTunnel x = plainTunnel(2, 4, 1, dry, 0);
            Houses.addBatches(x, 0);
            x.wash();
            e.run("DRY " + dry, x, 0, 0, 1, 3, 0, 3 + dry);
        }
        LinenTunnel y = driesOf(3, 9, 2, 9, 9);
        y.wash();
        checkDryers(y, 0, 1, 2, 1);
        LinenTunnel z = driesOf(3, 2, 9, 9, 9);
        z.wash();
        checkDryers(z, 0, 1, 0, 2);
        LinenTunnel w = driesOf(4, 9, 9, 9, 9, 9);
        w.wash();
        checkDryers(w, 0, 1, 2, 3, 0);
    }

    private void checkDryers(LinenTunnel x, int... want) {
        for (int place = 0; place < want.length; place++) {
            e.is("dryer of " + place, x.run(place, 3), want[place]);
        }
    }

    private void dryerTillAtMost() {
        e.sentence("Terms", "(a DRYER is free at BEAT t, if it was taken till t at most)");
        LinenTunnel x = driesOf(1, 1, 1);
        x.wash();
        e.run("taken till t", x, 1, 1, 2, 4, 0, 5);
        e.is("taken till t: held", x.washed(2), 0);
        LinenTunnel y = driesOf(1, 2, 2);
        y.wash();
        e.run("taken till t + 1", y, 1, 1, 2, 5, 0, 7);
        e.is("taken till t + 1: held", y.washed(2), 1);
        LinenTunnel z = plainTunnel(2, 1, 1, 9, 0);
        Houses.addBatches(z, 0);
        z.wash();
        Houses.addBatches(z, 0);
        z.wash();
        e.run("each wash begins with free ones", z, 0, 0, 1, 3, 0, 12);
    }

    private void ironsByWhenDry() {
        e.sentence("Terms", "IRONING: BATCHES by when they are DRY");
        LinenTunnel x = Houses.tunnel(2, 2, 1);
        x.kind(0, 0, false, 5, 4);
        x.kind(0, 0, false, 3, 4);
        Houses.addBatches(x, 0, 1);
        x.wash();
        e.run("dry at 8", x, 0, 0, 1, 3, 0, 8, 0, 15);
        e.run("dry at 7", x, 1, 1, 2, 4, 1, 7, 0, 11);
    }

    private void likeDryOnes() {
        e.sentence("Terms", "(of like ones the one that went out first)");
        LinenTunnel x = Houses.tunnel(2, 2, 1);
        x.kind(0, 0, false, 4, 4);
        x.kind(0, 0, false, 3, 4);
        Houses.addBatches(x, 0, 1);
        x.wash();
        e.run("the first that went out", x, 0, 0, 1, 3, 0, 7, 0, 11);
        e.run("the next", x, 1, 1, 2, 4, 1, 7, 0, 15);
        LinenTunnel y = Houses.tunnel(2, 3, 2);
        y.kind(0, 0, false, 4, 4);
        y.kind(0, 0, false, 3, 4);
        y.kind(0, 0, false, 2, 4);
        Houses.addBatches(y, 2, 1, 0);
        y.swap(0, 2);
        y.wash();
        e.run("by places, not by numbers", y, 0, 0, 1, 3, 0, 7, 0, 11);
        e.run("by places, not by numbers", y, 1, 1, 2, 4, 1, 7, 1, 11);
        e.run("by places, not by numbers", y, 2, 2, 3, 5, 2, 7, 0, 15);
    }

    private void ironFreeFirst() {
        e.sentence("Terms", "each takes the IRON that is free first (of like ones the least number)");
        LinenTunnel x = ironsOf(2, 9, 2, 2, 2);
        checkIrons("the other is taken for long", x, new int[] {0, 1, 1, 1}, new int[] {12, 6, 8, 10});
        LinenTunnel y = Houses.tunnel(2, 1, 2);
        y.kind(0, 0, false, 0, 3);
        y.kind(0, 0, false, 0, 1);
        y.kind(0, 0, false, 9, 1);
        Houses.addBatches(y, 0, 1, 2);
        checkIrons("both are free when it is DRY", y, new int[] {0, 1, 1}, new int[] {6, 5, 15});
        LinenTunnel z = ironsOf(2, 3, 2, 5);
        checkIrons("both are free at 6", z, new int[] {0, 1, 0}, new int[] {6, 6, 11});
        LinenTunnel w = ironsOf(3, 5, 4, 3, 1, 1, 1);
        checkIrons("all three are free at 8", w, new int[] {0, 1, 2, 0, 1, 2}, new int[] {8, 8, 8, 9, 9, 9});
    }

    private void ironNotBeforeDry() {
        e.sentence("Terms", ", from when that is free, but not before the BATCH is DRY, for IRON BEATS");
        for (int iron = 1; iron <= 9; iron++) {
            LinenTunnel x = ironsOf(1, iron, 1);
            checkIrons("behind IRON " + iron, x, new int[] {0, 0}, new int[] {3 + iron, Math.max(4, 3 + iron) + 1});
        }
        LinenTunnel y = Houses.tunnel(2, 1, 1);
        y.kind(0, 0, false, 0, 1);
        y.kind(0, 0, false, 9, 1);
        Houses.addBatches(y, 0, 1);
        checkIrons("it is free long before", y, new int[] {0, 0}, new int[] {4, 14});
        Houses.addBatches(y, 0);
        y.wash();
        e.is("each wash begins with free ones", y.run(0, 6), 4);
    }

    private void ironNone() {
        e.sentence("Terms", "(0: it is done as it is DRY, and takes none)");
        LinenTunnel x = ironsOf(1, 0, 2, 0, 2);
        checkIrons("0, 2, 0, 2", x, new int[] {NONE, 0, NONE, 0}, new int[] {3, 6, 5, 8});
        LinenTunnel y = plainTunnel(2, 1, 3, 9, 0);
        Houses.addBatches(y, 0);
        checkIrons("DRY 9", y, new int[] {NONE}, new int[] {12});
    }

    private void checkIrons(String call, LinenTunnel x, int[] irons, int[] done) {
        x.wash();
        for (int place = 0; place < irons.length; place++) {
            e.is(call + ": iron of " + place, x.run(place, 5), irons[place]);
            e.is(call + ": " + place + " is done", x.run(place, 6), done[place]);
        }
    }

    private void allAreClean() {
        e.sentence("Terms", "All PIECES of BATCHES are CLEAN then, and have one WASH more; nothing waits.");
        LinenTunnel x = Houses.after(Houses::busy);
        x.wash();
        e.places("of three batches", x, 3, 3, 3, 3, 3, 3, 3, 3, 3, 4, 1, 1, 0, 0, 0, 0, 0, 4);
        int[] washes = {2, 1, 1, 1, 1, 1, 1, 1, 1, 1, 0, 0, 0, 0, 0, 0, 0, 0};
        for (int p = 0; p < washes.length; p++) {
            e.is("washes of " + p, x.about(p, 4), washes[p]);
            e.is("batch of " + p, x.about(p, 5), NONE);
        }
        e.order("nothing waits", x);
        e.is("nothing waits", x.wash(), NOT);
        LinenTunnel y = Houses.after(Houses.soiled(100));
        for (int b = 0; b < 5; b++) {
            y.batch(0, -1, 20);
        }
        y.wash();
        e.is("a hundred", y.pieces(0, 0, 3), 100);
        e.is("a hundred are told", y.washed(6), 100);
    }

    private void waterOfBeatsNotHeld() {
        e.sentence("Terms", "WATER: at each BEAT that is not HELD, behind the moving,");
        LinenTunnel x = plainTunnel(3, 1, 1, 9, 0);
        Houses.addBatches(x, 0, 0);
        x.wash();
        e.washed("eight beats held", x, 13, 0, 8, 40);
        LinenTunnel y = plainTunnel(2, 1, 1, 0, 0);
        Houses.addBatches(y, 0);
        y.wash();
        e.is("as it comes in, but not as it goes out", y.washed(3), 20);
    }

    private void waterByPieces() {
        e.sentence("Terms", "each COMPARTMENT with a BATCH takes 10 by its number of PIECES,");
        for (int n = 1; n <= 20; n++) {
            LinenTunnel x = plainTunnel(2, 1, 1, 0, 0);
            Houses.addSoiled(x, 0, n);
            x.batch(0, -1, 20);
            x.wash();
            e.is("of " + n, x.washed(3), 2 * 10 * n);
        }
    }

    private void waterOfTheNext() {
        e.sentence("Terms", "but a COMPARTMENT k below C - 1 takes none, if COMPARTMENT k + 1 has a BATCH whose COLOUR is not darker than its own (it has that one's).");
        for (int c = 2; c <= 10; c++) {
            for (int own = 0; own <= 2; own++) {
                for (int next = 0; next <= own; next++) {
                    LinenTunnel x = unlikePair(c, 1, next, 1, own);
                    e.is("colour " + own + " behind " + next + " in " + c, x.washed(3), 10 * (2 * c + 3));
                }
            }
            LinenTunnel y = unlikePair(c, 0, 0, 2, 0);
            e.is("an empty one between them, in " + c, y.washed(3), 10 * (2 * c + 3 * c));
            LinenTunnel z = unlikePair(c, 1, 2, 1, 1);
            e.is("a darker one ahead, and so an empty one, in " + c, z.washed(3), 10 * (2 * c + 3 * c));
        }
    }

    /** Two pieces of a heat and colour, washed ahead of three of another one. */
    private static LinenTunnel unlikePair(int c, int heat, int colour, int nextHeat, int nextColour) {
        LinenTunnel x = Houses.tunnel(c, 1, 1);
        x.kind(heat, colour, false, 0, 0);
        x.kind(nextHeat, nextColour, false, 0, 0);
        Houses.addSoiled(x, 0, 2);
        Houses.addSoiled(x, 1, 3);
        x.batch(0, -1, 20);
        x.batch(1, -1, 20);
        x.wash();
        return x;
    }

    // ---- 20: tunnel

    private void tunnelSets() {
        e.sentence("Promise 20", "COMPARTMENTS, DRYERS, IRONS: 1.");
        for (int c : new int[] {2, 3, 9, 10}) {
            for (int d = 1; d <= 4; d++) {
                for (int i = 1; i <= 3; i++) {
                    LinenTunnel x = Houses.after(Houses::busy);
                    e.is("tunnel(" + c + ", " + d + ", " + i + ")", x.tunnel(c, d, i), 1);
                    e.is("c", x.count(3), c);
                    e.is("d", x.count(4), d);
                    e.is("i", x.count(5), i);
                }
            }
        }
    }

    private void tunnelBad() {
        e.sentence("Promise 20", "BAD");
        e.range(Houses::busy, "c", 2, 10, (x, v) -> x.tunnel(v, 4, 3), v -> 1);
        e.range(Houses::busy, "d", 1, 4, (x, v) -> x.tunnel(10, v, 3), v -> 1);
        e.range(Houses::busy, "i", 1, 3, (x, v) -> x.tunnel(10, 4, v), v -> 1);
        e.range(Houses::empty, "all of them", 2, 3, (x, v) -> x.tunnel(v, v, v), v -> 1);
    }

    // ---- 21: wash

    private void washTellsBeats() {
        e.sentence("Promise 21", "A WASH: how many BEATS.");
        LinenTunnel x = plainTunnel(2, 1, 1, 0, 0);
        Houses.addBatches(x, 0);
        e.is("the fewest", x.wash(), 3);
        LinenTunnel y = Houses.tunnel(10, 1, 1);
        y.kind(3, 2, true, 9, 9);
        y.kind(0, 0, false, 9, 9);
        Houses.addBatches(y, 0, 1, 0, 1, 0, 1, 0, 1, 0, 1, 0, 1);
        e.is("the twelve with the most empties, each but the first behind a DRY of 9", y.wash(), 110);
        e.is("held", y.washed(2), 53);
        LinenTunnel z = plainTunnel(10, 1, 1, 9, 0);
        Houses.addBatches(z, new int[12]);
        e.is("twelve with no empties, each but the first behind a DRY of 9", z.wash(), 110);
        e.is("washes", z.count(7), 1);
    }

    private void washNot() {
        e.sentence("Promise 21", "NOT: nothing waits.");
        e.refuses(Houses::empty, "of a new one", x -> x.wash(), NOT);
        e.refuses(Houses.soiled(3), "all are SOILED, none in a batch", x -> x.wash(), NOT);
        e.refuses(Houses.clean(3), "behind a wash", x -> x.wash(), NOT);
        e.refuses(Houses.waiting(2).andThen(x -> {
            x.undo();
            x.undo();
        }), "all are undone", x -> x.wash(), NOT);
    }

    // ---- 22: washed

    private void washedAll() {
        e.sentence("Promise 22", "Of the latest WASH: 0 BEATS, 1 EMPTIES, 2 HELD ones, 3 WATER,");
        e.sentence("Promise 22", "5 BATCHES, 6 PIECES.");
        int[] want = {11, 5, 0, 190, 15, 3, 7};
        for (int what = 0; what <= 6; what++) {
            int asked = what;
            e.tells(Houses::busy, "washed(" + what + ")", x -> x.washed(asked), want[what]);
        }
        LinenTunnel y = Houses.after(Houses::busy);
        y.tunnel(2, 1, 1);
        y.undo();
        y.undo();
        y.wash();
        e.washed("the latest alone", y, 3, 0, 0, 20, 6, 1, 1);
    }

    private void washedLastDone() {
        e.sentence("Promise 22", "4 when the last BATCH was done,");
        LinenTunnel x = Houses.tunnel(2, 1, 2);
        x.kind(0, 0, false, 9, 9);
        x.kind(0, 0, false, 0, 0);
        Houses.addBatches(x, 0, 1);
        x.wash();
        e.run("the first place is done last", x, 0, 0, 1, 3, 0, 12, 0, 21);
        e.run("the last place", x, 1, 1, 2, 4, NONE, 4, NONE, 4);
        e.is("the last that is done", x.washed(4), 21);
        LinenTunnel y = plainTunnel(2, 1, 1, 0, 0);
        Houses.addBatches(y, 0);
        y.wash();
        e.is("of one, the least", y.washed(4), 3);
    }

    private void washedBeforeAny() {
        e.sentence("Promise 22", "0 before any.");
        for (int what = 0; what <= 6; what++) {
            int asked = what;
            e.tells(Houses::empty, "washed(" + what + ")", x -> x.washed(asked), 0);
            e.tells(Houses::full, "twelve wait: washed(" + what + ")", x -> x.washed(asked), 0);
        }
    }

    private void washedBad() {
        e.sentence("Promise 22", "BAD");
        e.range(Houses::busy, "what", 0, 6, (x, v) -> x.washed(v), v -> new int[] {11, 5, 0, 190, 15, 3, 7}[v]);
        e.range(Houses::empty, "what before any", 0, 6, (x, v) -> x.washed(v), v -> 0);
    }

    // ---- 23: run

    private void runOfPlaces() {
        e.sentence("Promise 23", "Of the BATCH that stood at a place of THE ORDER in the latest WASH:");
        LinenTunnel x = Houses.after(Houses::busy);
        x.wash();
        int[] kinds = {1, 0, 2};
        for (int place = 0; place < 3; place++) {
            e.is("place " + place + ", not number " + place, x.run(place, 0), kinds[place]);
        }
        LinenTunnel y = Houses.after(Houses.kinds(8));
        Houses.addBatches(y, 0, 1, 2, 3, 4, 5, 6, 7, 0, 1, 2, 3);
        y.swap(0, 11);
        y.wash();
        for (int place = 0; place < 12; place++) {
            e.is("place " + place + " of twelve", y.run(place, 0), place == 0 ? 3 : place == 11 ? 0 : place % 8);
        }
    }

    private void runAll() {
        e.sentence("Promise 23", "0 its KIND, 1 the BEAT it came in, 2 went out, 3 its DRYER (NONE), 4 when it was DRY, 5 its IRON (NONE), 6 when it was done.");
        int[][] want = {{1, 1, 4, NONE, 4, 0, 7}, {0, 7, 10, 0, 12, 1, 13}, {2, 8, 11, 1, 15, NONE, 15}};
        for (int place = 0; place < 3; place++) {
            for (int what = 0; what <= 6; what++) {
                int at = place;
                int asked = what;
                e.tells(Houses::busy, "run(" + place + ", " + what + ")", x -> x.run(at, asked), want[place][what]);
            }
        }
    }

    private void runBad() {
        e.sentence("Promise 23", "BAD: also no such one.");
        e.noneIsGood(Houses::empty, "place before any", (x, v) -> x.run(v, 0), BAD);
        e.noneIsGood(Houses::full, "place of a wash to come", (x, v) -> x.run(v, 0), BAD);
        e.range(Houses::busy, "place of three", 0, 2, (x, v) -> x.run(v, 0), v -> new int[] {1, 0, 2}[v]);
        e.range(Houses::busy, "what", 0, 6, (x, v) -> x.run(1, v), v -> new int[] {0, 7, 10, 0, 12, 1, 13}[v]);
        Consumer<LinenTunnel> twelve = Houses.waiting(12).andThen(x -> x.wash());
        e.range(twelve, "place of twelve", 0, 11, (x, v) -> x.run(v, 1), v -> 1 + v);
        Consumer<LinenTunnel> shorter = twelve.andThen(x -> {
            Houses.addBatches(x, 0);
            x.wash();
        });
        e.range(shorter, "place of one, behind a wash of twelve", 0, 0, (x, v) -> x.run(v, 1), v -> 1);
        e.range(Houses::busy, "both", 0, 2, (x, v) -> x.run(v, v), v -> new int[] {1, 7, 11}[v]);
    }

    /** A tunnel, and one kind that takes so long to dry and to iron. */
    private static LinenTunnel plainTunnel(int c, int d, int i, int dry, int iron) {
        LinenTunnel x = Houses.tunnel(c, d, i);
        x.kind(0, 0, false, dry, iron);
        return x;
    }

    /** Two compartments, so many dryers; a batch that takes so long to dry for each number told. */
    private static LinenTunnel driesOf(int d, int... dries) {
        LinenTunnel x = Houses.tunnel(2, d, 1);
        for (int k = 0; k < dries.length; k++) {
            x.kind(0, 0, false, dries[k], 0);
            Houses.addBatches(x, k);
        }
        return x;
    }

    /** Two compartments, so many irons; a batch that takes so long to iron for each number told. */
    private static LinenTunnel ironsOf(int i, int... irons) {
        LinenTunnel x = Houses.tunnel(2, 1, i);
        for (int k = 0; k < irons.length; k++) {
            x.kind(0, 0, false, 0, irons[k]);
            Houses.addBatches(x, k);
        }
        return x;
    }
}
