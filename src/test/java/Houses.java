import java.util.function.Consumer;

/** Houses that tests begin with, made by 220 calls at most, so that 512 are far. */
final class Houses {
    private Houses() { }

    static LinenTunnel after(Consumer<LinenTunnel> house) {
        LinenTunnel x = new LinenTunnel();
        house.accept(x);
        return x;
    }

    static void empty(LinenTunnel x) { }

    /**
     * Three kinds, 18 pieces, a wash, three batches in the order 2, 1, 0, three sheets.
     * Places: OUT 12 to 16; SOILED 10, 11; in BATCH 0 5, 8, in 1 0, in 2 7; CLEAN 1 to 4
     * and 6; LOST 9, 17. Sheets: 0 five bytes, 1 sixty shorts, 2 seven ints; 3 is LOST.
     */
    static void busy(LinenTunnel x) {
        x.tunnel(3, 2, 2);
        x.kind(1, 0, false, 2, 1);
        x.kind(3, 2, true, 0, 3);
        x.kind(0, 1, false, 4, 0);
        for (int p = 0; p < 18; p++) {
            x.piece(p % 3, p % 6, p % 4 != 0);
        }
        handAll(x, 0, 11);
        x.lost(5);
        x.lost(8);
        x.lost(11);
        x.lost(7);
        x.lost(10);
        x.batch(1, -1, 20);
        x.batch(0, -1, 20);
        x.batch(2, -1, 20);
        x.wash();
        for (int p : new int[] {5, 7, 8, 10, 11}) {
            x.lost(p);
            x.hand(p);
        }
        x.again(0);
        x.lost(9);
        x.lost(17);
        x.batch(2, -1, 2);
        x.batch(0, -1, 20);
        x.batch(1, -1, 1);
        x.swap(0, 2);
        x.sheet(0, 0, 5);
        x.sheet(1, 1, 60);
        x.sheet(2, 2, 7);
        x.put(1, 1, 0, 77);
        x.put(2, 2, 6, -7);
        for (int i = 0; i < 5; i++) {
            x.put(0, 0, i, 12 + i);
            x.put(1, 1, 59 - i, -1000 * (i + 1));
            x.put(2, 2, i, 1000000 * (i + 1));
        }
    }

    /** Eight kinds, a hundred pieces, twelve batches; of each kind two pieces or more are SOILED, ten pieces OUT. */
    static void full(LinenTunnel x) {
        for (int k = 0; k < 8; k++) {
            x.kind(k % 4, k % 3, k % 2 == 1, k, 9 - k);
        }
        for (int p = 0; p < 100; p++) {
            x.piece(p % 8, p % 6, true);
        }
        handAll(x, 0, 89);
        for (int b = 0; b < 12; b++) {
            x.batch(b % 8, -1, 4);
        }
    }

    /** So many pieces of one kind, all of owner 0 and SOILED. */
    static Consumer<LinenTunnel> soiled(int pieces) {
        return x -> {
            x.kind(0, 0, false, 0, 0);
            addSoiled(x, 0, pieces);
        };
    }

    /** So many batches of one piece, all of one kind. */
    static Consumer<LinenTunnel> waiting(int batches) {
        return x -> {
            x.kind(0, 0, false, 0, 0);
            addBatches(x, new int[batches]);
        };
    }

    /** So many CLEAN pieces, all of owner 0 and of kind 0; at most a hundred. */
    static Consumer<LinenTunnel> clean(int pieces) {
        return x -> {
            soiled(pieces).accept(x);
            for (int left = pieces; left > 0; left -= 20) {
                x.batch(0, -1, 20);
            }
            x.wash();
        };
    }

    /** Kinds that differ in nothing. */
    static Consumer<LinenTunnel> kinds(int n) {
        return x -> {
            for (int k = 0; k < n; k++) {
                x.kind(0, 0, false, 0, 0);
            }
        };
    }

    /** Pieces of one kind that are OUT, of all owners in turn. */
    static Consumer<LinenTunnel> pieces(int n) {
        return x -> {
            x.kind(0, 0, false, 0, 0);
            for (int p = 0; p < n; p++) {
                x.piece(0, p % 6, true);
            }
        };
    }

    /** One sheet, number 0, its items are 1, 2, .. */
    static Consumer<LinenTunnel> rising(int form, int n) {
        return x -> {
            x.sheet(0, form, n);
            for (int i = 0; i < n; i++) {
                x.put(0, form, i, i + 1);
            }
        };
    }

    static LinenTunnel tunnel(int c, int d, int i) {
        LinenTunnel x = new LinenTunnel();
        x.tunnel(c, d, i);
        return x;
    }

    static void handAll(LinenTunnel x, int first, int last) {
        for (int p = first; p <= last; p++) {
            x.hand(p);
        }
    }

    static void addSoiled(LinenTunnel x, int kind, int pieces) {
        for (int p = 0; p < pieces; p++) {
            x.hand(x.piece(kind, 0, true));
        }
    }

    /** A batch of one new piece for each kind told. */
    static void addBatches(LinenTunnel x, int... kinds) {
        for (int kind : kinds) {
            addSoiled(x, kind, 1);
            x.batch(kind, -1, 1);
        }
    }
}
