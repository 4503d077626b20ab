/** Promises 20 to 23: the tunnel, its washes, dryers, irons and water. */
public final class WashingTest {
    private static final int BAD = LinenTunnel.BAD, NOT = LinenTunnel.NOT, NONE = LinenTunnel.NONE;
    private static final int KIND = 0, CAME_IN = 1, WENT_OUT = 2, DRYER = 3, DRY = 4, IRON = 5, DONE = 6;
    private static final Due due = new Due("WashingTest");

    public static void main(String[] args) {
        settings();
        oneBatch();
        heldForADryer();
        dryersByNumber();
        notHeldWithoutDrying();
        emptySlots();
        emptiesAreNotHeld();
        ironsByWhenDry();
        likeDryTimes();
        ironThatIsFreeFirst();
        waterOfTheNext();
        waterOfHeldBeats();
        ordersAndBatches();
        secondWash();
        refusals();
        due.end();
    }

    private static void settings() {
        LinenTunnel x = new LinenTunnel();
        due.is("tunnel(2, 1, 1)", x.tunnel(2, 1, 1), 1);
        checkSettings(x, 2, 1, 1);
        due.is("tunnel(10, 4, 3)", x.tunnel(10, 4, 3), 1);
        checkSettings(x, 10, 4, 3);
        due.is("tunnel(1, 1, 1)", x.tunnel(1, 1, 1), BAD);
        due.is("tunnel(11, 1, 1)", x.tunnel(11, 1, 1), BAD);
        due.is("tunnel(2, 0, 1)", x.tunnel(2, 0, 1), BAD);
        due.is("tunnel(2, 5, 1)", x.tunnel(2, 5, 1), BAD);
        due.is("tunnel(2, 1, 0)", x.tunnel(2, 1, 0), BAD);
        due.is("tunnel(2, 1, 4)", x.tunnel(2, 1, 4), BAD);
        checkSettings(x, 10, 4, 3);
    }

    private static void checkSettings(LinenTunnel x, int c, int d, int i) {
        due.is("compartments", x.count(3), c);
        due.is("dryers", x.count(4), d);
        due.is("irons", x.count(5), i);
    }

    private static void oneBatch() {
        LinenTunnel x = new LinenTunnel();
        x.kind(0, 0, false, 4, 3);
        soiled(x, 0, 5);
        x.batch(0, -1, 20);
        due.is("one batch: wash", x.wash(), 5);
        checkTotals("one batch", x, 5, 0, 0, 200, 12, 1, 5);
        checkRun("one batch", x, 0, 0, 1, 5, 0, 9, 0, 12);
        due.is("one batch: nothing waits", x.count(2), 0);
        due.is("one batch: at(0)", x.at(0), NONE);
        due.is("one batch: washes of the tunnel", x.count(7), 1);
        due.is("one batch: CLEAN", x.pieces(-1, -1, 3), 5);
        due.is("one batch: washes of a piece", x.about(4, 4), 1);
        due.is("one batch: BATCH of a piece", x.about(4, 5), NONE);
    }

    private static void heldForADryer() {
        LinenTunnel x = tunnelOf(2, 1, 1);
        x.kind(0, 0, false, 3, 0);
        batches(x, 0, 0, 0);
        due.is("held: wash", x.wash(), 9);
        checkTotals("held", x, 9, 0, 4, 40, 12, 3, 3);
        checkRun("held", x, 0, 0, 1, 3, 0, 6, NONE, 6);
        checkRun("held", x, 1, 0, 2, 6, 0, 9, NONE, 9);
        checkRun("held", x, 2, 0, 3, 9, 0, 12, NONE, 12);
        LinenTunnel y = tunnelOf(2, 1, 1);
        y.kind(0, 0, false, 1, 0);
        batches(y, 0, 0, 0);
        due.is("not held, for one beat is enough: wash", y.wash(), 5);
        due.is("not held, for one beat is enough", y.washed(2), 0);
    }

    private static void dryersByNumber() {
        LinenTunnel x = tunnelOf(2, 3, 1);
        x.kind(0, 0, false, 9, 0);
        x.kind(0, 0, false, 1, 0);
        batches(x, 0, 1, 1, 0, 1, 0);
        due.is("dryers: wash", x.wash(), 8);
        int[] dryers = {0, 1, 1, 1, 2, 2};
        for (int place = 0; place < dryers.length; place++) {
            due.is("dryers: out " + place, x.run(place, WENT_OUT), 3 + place);
            due.is("dryers: of " + place, x.run(place, DRYER), dryers[place]);
        }
    }

    private static void notHeldWithoutDrying() {
        LinenTunnel x = tunnelOf(2, 1, 1);
        x.kind(0, 0, false, 9, 0);
        x.kind(0, 0, false, 0, 0);
        batches(x, 0, 1, 0);
        due.is("no drying: wash", x.wash(), 12);
        checkRun("no drying", x, 0, 0, 1, 3, 0, 12, NONE, 12);
        checkRun("no drying", x, 1, 1, 2, 4, NONE, 4, NONE, 4);
        checkRun("no drying", x, 2, 0, 3, 12, 0, 21, NONE, 21);
        due.is("no drying: held", x.washed(2), 7);
        due.is("no drying: end", x.washed(4), 21);
    }

    private static void emptySlots() {
        LinenTunnel x = tunnelOf(3, 1, 1);
        x.kind(0, 2, true, 0, 0);
        x.kind(2, 0, false, 0, 0);
        batches(x, 0, 1);
        due.is("empty slots: empties", x.empties(), 5);
        due.is("empty slots: wash", x.wash(), 10);
        checkTotals("empty slots", x, 10, 5, 0, 60, 10, 2, 2);
        checkRun("empty slots", x, 0, 0, 1, 4, NONE, 4, NONE, 4);
        checkRun("empty slots", x, 1, 1, 7, 10, NONE, 10, NONE, 10);
    }

    private static void emptiesAreNotHeld() {
        // the empty slots go out while the dryer is taken, the batch behind waits
        LinenTunnel x = tunnelOf(2, 1, 1);
        x.kind(0, 2, false, 9, 0);
        x.kind(0, 0, false, 9, 0);
        batches(x, 0, 1);
        due.is("empties move on: wash", x.wash(), 12);
        checkRun("empties move on", x, 0, 0, 1, 3, 0, 12, NONE, 12);
        checkRun("empties move on", x, 1, 1, 4, 12, 0, 21, NONE, 21);
        due.is("empties move on: held", x.washed(2), 6);
        // and none comes in while the beat is held
        LinenTunnel y = tunnelOf(2, 1, 1);
        y.kind(0, 0, false, 4, 0);
        batches(y, 0, 0, 0, 0);
        due.is("none comes in: wash", y.wash(), 15);
        due.is("none comes in: third", y.run(2, CAME_IN), 3);
        due.is("none comes in: fourth", y.run(3, CAME_IN), 7);
    }

    private static void ironsByWhenDry() {
        LinenTunnel x = tunnelOf(2, 1, 1);
        x.kind(0, 0, false, 9, 2);
        x.kind(0, 0, false, 0, 5);
        batches(x, 0, 1);
        due.is("irons: wash", x.wash(), 4);
        checkRun("irons", x, 0, 0, 1, 3, 0, 12, 0, 14);
        checkRun("irons", x, 1, 1, 2, 4, NONE, 4, 0, 9);
        due.is("irons: end is when all are done", x.washed(4), 14);
        LinenTunnel y = tunnelOf(2, 2, 1);
        y.kind(0, 0, false, 1, 9);
        batches(y, 0, 0, 0);
        y.wash();
        due.is("irons: 1 waits for the iron", y.run(1, DONE), 22);
        due.is("irons: 2 waits for the iron", y.run(2, DONE), 31);
    }

    private static void likeDryTimes() {
        LinenTunnel x = tunnelOf(2, 1, 2);
        x.kind(0, 0, false, 1, 4);
        x.kind(0, 0, false, 0, 4);
        batches(x, 0, 1);
        x.wash();
        due.is("like dry times: 0", x.run(0, DRY), 4);
        due.is("like dry times: 1", x.run(1, DRY), 4);
        due.is("like dry times: iron of the first out", x.run(0, IRON), 0);
        due.is("like dry times: iron of the next", x.run(1, IRON), 1);
        LinenTunnel y = tunnelOf(2, 1, 1);
        y.kind(0, 0, false, 1, 2);
        y.kind(0, 0, false, 0, 3);
        batches(y, 0, 1);
        y.wash();
        due.is("like dry times: the first out is done", y.run(0, DONE), 6);
        due.is("like dry times: the next is done", y.run(1, DONE), 9);
    }

    private static void ironThatIsFreeFirst() {
        LinenTunnel x = tunnelOf(2, 1, 3);
        x.kind(0, 0, false, 0, 1);
        x.kind(0, 0, false, 0, 9);
        x.kind(0, 0, false, 0, 0);
        batches(x, 0, 1, 2, 0, 0, 0);
        x.wash();
        int[] irons = {0, 1, NONE, 2, 0, 2};
        int[] done = {4, 13, 5, 7, 8, 9};
        for (int place = 0; place < irons.length; place++) {
            due.is("free first: iron of " + place, x.run(place, IRON), irons[place]);
            due.is("free first: done " + place, x.run(place, DONE), done[place]);
        }
        due.is("free first: end", x.washed(4), 13);
    }

    private static void waterOfTheNext() {
        // white ahead of dark: the dark one takes the white one's water
        LinenTunnel x = tunnelOf(3, 1, 1);
        x.kind(0, 0, false, 0, 0);
        x.kind(0, 2, false, 0, 0);
        soiled(x, 0, 4);
        soiled(x, 1, 3);
        x.batch(0, -1, 20);
        x.batch(1, -1, 20);
        due.is("water: white ahead of dark", x.wash(), 5);
        due.is("water: 40, 40, 40 and 30", x.washed(3), 150);
        // an empty slot between them: each has its own
        LinenTunnel y = tunnelOf(3, 1, 1);
        y.kind(0, 0, false, 0, 0);
        y.kind(2, 0, false, 0, 0);
        batches(y, 0, 1);
        due.is("water: an empty between", y.wash(), 6);
        due.is("water: each has its own", y.washed(3), 60);
        LinenTunnel z = tunnelOf(2, 1, 1);
        z.kind(0, 1, false, 0, 0);
        batches(z, 0, 0, 0);
        due.is("water: three of a colour", z.wash(), 5);
        due.is("water: the last compartment's alone", z.washed(3), 40);
    }

    private static void waterOfHeldBeats() {
        LinenTunnel x = tunnelOf(3, 1, 1);
        x.kind(0, 0, false, 9, 0);
        batches(x, 0, 0);
        due.is("water of held beats: wash", x.wash(), 13);
        due.is("water of held beats: held", x.washed(2), 8);
        due.is("water of held beats: none", x.washed(3), 40);
    }

    private static void ordersAndBatches() {
        LinenTunnel x = tunnelOf(2, 1, 1);
        x.kind(0, 0, false, 0, 1);
        x.kind(0, 0, false, 2, 0);
        batches(x, 0, 1);
        x.swap(0, 1);
        x.wash();
        checkRun("run goes by places", x, 0, 1, 1, 3, 0, 5, NONE, 5);
        checkRun("run goes by places", x, 1, 0, 2, 4, NONE, 4, 0, 5);
    }

    private static void secondWash() {
        LinenTunnel x = tunnelOf(2, 1, 1);
        x.kind(0, 2, false, 9, 9);
        x.kind(0, 0, false, 9, 9);
        batches(x, 0, 1, 0);
        x.wash();
        x.piece(1, 0, true);
        x.hand(3);
        x.batch(1, -1, 1);
        checkTotals("the first is told till the second", x, 21, 2, 14, 50, 39, 3, 3);
        due.is("second: wash", x.wash(), 3);
        checkTotals("second", x, 3, 0, 0, 20, 21, 1, 1);
        checkRun("second", x, 0, 1, 1, 3, 0, 12, 0, 21);
        due.is("second: run(1, 0)", x.run(1, 0), BAD);
        due.is("second: washes of the tunnel", x.count(7), 2);
        due.is("second: washes of an earlier piece", x.about(0, 4), 1);
        due.is("second: washes of its piece", x.about(3, 4), 1);
    }

    private static void refusals() {
        LinenTunnel x = tunnelOf(2, 1, 1);
        due.is("wash: nothing waits", x.wash(), NOT);
        due.is("wash: none so far", x.count(7), 0);
        due.is("run: before any", x.run(0, 0), BAD);
        x.kind(0, 0, false, 0, 0);
        batches(x, 0, 0);
        due.is("run: before any", x.run(0, 0), BAD);
        x.wash();
        due.is("wash: nothing waits again", x.wash(), NOT);
        checkTotals("wash: the latest stays", x, 4, 0, 0, 30, 4, 2, 2);
        due.is("wash: one so far", x.count(7), 1);
        due.is("run: place -1", x.run(-1, 0), BAD);
        due.is("run: place 2", x.run(2, 0), BAD);
        due.is("run: what -1", x.run(0, -1), BAD);
        due.is("run: what 7", x.run(0, 7), BAD);
        due.is("washed: what -1", x.washed(-1), BAD);
        due.is("washed: what 7", x.washed(7), BAD);
    }

    private static LinenTunnel tunnelOf(int c, int d, int i) {
        LinenTunnel x = new LinenTunnel();
        x.tunnel(c, d, i);
        return x;
    }

    private static void soiled(LinenTunnel x, int kind, int pieces) {
        for (int i = 0; i < pieces; i++) {
            x.hand(x.piece(kind, 0, true));
        }
    }

    /** A batch of one piece for each kind told. */
    private static void batches(LinenTunnel x, int... kinds) {
        for (int kind : kinds) {
            soiled(x, kind, 1);
            x.batch(kind, -1, 1);
        }
    }

    private static void checkTotals(String call, LinenTunnel x, int... want) {
        for (int what = 0; what < want.length; what++) {
            due.is(call + ": washed(" + what + ")", x.washed(what), want[what]);
        }
    }

    private static void checkRun(String call, LinenTunnel x, int place, int... want) {
        for (int what = KIND; what <= DONE; what++) {
            due.is(call + ": run(" + place + ", " + what + ")", x.run(place, what), want[what]);
        }
    }
}
