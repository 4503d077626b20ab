/** The sentences of promises 1 to 10 that name a boundary. */
final class EdgesOfPieces {
    private static final int NONE = Edges.NONE, BAD = Edges.BAD, FULL = Edges.FULL, NOT = Edges.NOT;
    private static final int NULL = Edges.NULL, INDEX = Edges.INDEX;
    private static final int LEAST = Edges.LEAST, GREATEST = Edges.GREATEST;

    private final Edges e;

    EdgesOfPieces(Edges edges) {
        e = edges;
    }

    void all() {
        nothingAtFirst();
        tunnelAtFirst();
        sheetsAtFirst();
        kindNumbers();
        kindBad();
        kindFull();
        pieceNumbers();
        pieceBad();
        pieceFull();
        aboutAll();
        aboutChip();
        aboutBatch();
        aboutBad();
        chipFromNowOn();
        chipBad();
        lostOnes();
        lostIsOut();
        lostTellsThePlace();
        lostBad();
        lostInABatch();
        againClean();
        againBad();
        againNot();
        piecesOfOwners();
        piecesOfKinds();
        piecesAtPlaces();
        piecesBad();
        scanFirstItems();
        scanTakesIn();
        scanPassesOver();
        scanTellsHowMany();
        scanBad();
        scanNull();
        scanIndex();
        handTakesIn();
        handBad();
        handNot();
    }

    // ---- 1: a new object

    private void nothingAtFirst() {
        e.sentence("Promise 1", "No KINDS, PIECES");
        new LinenTunnel().kind(0, 0, false, 0, 0);
        Houses.after(Houses::full);
        e.tells(Houses::empty, "kinds", x -> x.count(0), 0);
        e.tells(Houses::empty, "pieces", x -> x.count(1), 0);
        e.tells(Houses::empty, "batches", x -> x.count(2), 0);
        e.tells(Houses::empty, "findings", x -> x.count(6), 0);
        e.tells(Houses::empty, "washes", x -> x.count(7), 0);
        for (int place = 0; place <= 4; place++) {
            int at = place;
            e.tells(Houses::empty, "pieces at " + place, x -> x.pieces(-1, -1, at), 0);
        }
        e.is("the first kind", new LinenTunnel().kind(0, 0, false, 0, 0), 0);
    }

    private void tunnelAtFirst() {
        e.sentence("Promise 1", "C 4, D 2, I 1");
        e.tells(Houses::empty, "C", x -> x.count(3), 4);
        e.tells(Houses::empty, "D", x -> x.count(4), 2);
        e.tells(Houses::empty, "I", x -> x.count(5), 1);
        LinenTunnel x = new LinenTunnel();
        x.kind(0, 0, false, 9, 9);
        Houses.addBatches(x, 0, 0, 0);
        e.is("beats of three", x.wash(), 14);
        e.run("the first", x, 0, 0, 1, 5, 0, 14, 0, 23);
        e.run("the second", x, 1, 0, 2, 6, 1, 15, 0, 32);
        e.run("the third", x, 2, 0, 3, 14, 0, 23, 0, 41);
    }

    private void sheetsAtFirst() {
        e.sentence("Promise 1", "all SHEETS are LOST");
        for (int s = 0; s <= 3; s++) {
            int sheet = s;
            e.refuses(Houses::empty, "lose(" + s + ")", x -> x.lose(sheet), NULL);
            e.refuses(Houses::empty, "scan(" + s + ", 0)", x -> x.scan(sheet, 0), NULL);
            e.refuses(Houses::empty, "get(" + s + ", 0, 0)", x -> x.get(sheet, 0, 0), LEAST, 1);
        }
    }

    // ---- 2: kind

    private void kindNumbers() {
        e.sentence("Promise 2", "A KIND more: its number.");
        LinenTunnel x = new LinenTunnel();
        for (int k = 0; k < 8; k++) {
            e.is("the next", x.kind(k % 4, k % 3, false, k, 9 - k), k);
            e.is("there are", x.count(0), k + 1);
        }
        Houses.addBatches(x, 7, 0);
        e.is("of the last and the first: empties", x.empties(), 2);
        x.wash();
        e.is("of the last: kind", x.run(0, 0), 7);
        e.is("of the last: dry", x.run(0, 4), 5 + 7);
        e.is("of the first: iron", x.run(1, 6), 8 + 9);
    }

    private void kindBad() {
        e.sentence("Promise 2", "BAD");
        for (int v : new int[] {-1, LEAST, 4, GREATEST}) {
            e.refuses(Houses::busy, "heat " + v, x -> x.kind(v, 0, true, 1, 1), BAD);
        }
        for (int v : new int[] {-1, LEAST, 3, GREATEST}) {
            e.refuses(Houses::busy, "colour " + v, x -> x.kind(1, v, true, 1, 1), BAD);
        }
        for (int v : new int[] {-1, LEAST, 10, GREATEST}) {
            e.refuses(Houses::busy, "dry " + v, x -> x.kind(1, 0, true, v, 1), BAD);
            e.refuses(Houses::busy, "iron " + v, x -> x.kind(1, 0, true, 1, v), BAD);
            e.refuses(Houses::full, "dry " + v + " where it's full", x -> x.kind(1, 0, true, v, 1), BAD);
        }
        e.is("the least of all", Houses.after(Houses::busy).kind(0, 0, false, 0, 0), 3);
        e.is("the most of all", Houses.after(Houses::busy).kind(3, 2, true, 9, 9), 3);
    }

    private void kindFull() {
        e.sentence("Promise 2", "FULL");
        e.is("the eighth", Houses.after(Houses.kinds(7)).kind(3, 2, true, 9, 9), 7);
        e.refuses(Houses.kinds(8), "the ninth", x -> x.kind(3, 2, true, 9, 9), FULL);
        e.refuses(Houses::full, "the ninth", x -> x.kind(0, 0, false, 0, 0), FULL);
    }

    // ---- 3: piece

    private void pieceNumbers() {
        e.sentence("Promise 3", "A PIECE more: its number.");
        LinenTunnel x = Houses.after(Houses.kinds(8));
        for (int p = 0; p < 100; p++) {
            e.is("the next", x.piece(p % 8, p % 6, p % 5 == 0), p);
            e.is("its kind", x.about(p, 0), p % 8);
            e.is("its owner", x.about(p, 1), p % 6);
            e.is("its chip", x.about(p, 2), p % 5 == 0 ? 1 : 0);
        }
        e.is("there are", x.count(1), 100);
    }

    private void pieceBad() {
        e.sentence("Promise 3", "BAD");
        e.noneIsGood(Houses::empty, "kind where there is none", (x, v) -> x.piece(v, 0, true), BAD);
        e.range(Houses::busy, "kind of three", 0, 2, (x, v) -> x.piece(v, 5, true), v -> 18);
        e.range(Houses::busy, "owner", 0, 5, (x, v) -> x.piece(2, v, false), v -> 18);
        for (int v : new int[] {-1, 8, LEAST, GREATEST}) {
            e.refuses(Houses::full, "kind " + v + " where it's full", x -> x.piece(v, 0, true), BAD);
        }
    }

    private void pieceFull() {
        e.sentence("Promise 3", "FULL");
        e.is("the hundredth", Houses.after(Houses.pieces(99)).piece(0, 0, true), 99);
        e.refuses(Houses.pieces(100), "the 101st", x -> x.piece(0, 0, true), FULL);
        e.refuses(Houses::full, "the 101st", x -> x.piece(7, 5, false), FULL);
    }

    // ---- 4: about

    private void aboutAll() {
        e.sentence("Promise 4", "Of a PIECE: 0 KIND, 1 OWNER,");
        e.sentence("Promise 4", "3 PLACE, 4 WASHES,");
        int[][] want = {{0, 0, 0, 2, 1, 1}, {2, 5, 1, 2, 0, 0}, {0, 3, 1, 4, 1, NONE}, {2, 5, 1, 4, 0, NONE}};
        int[] pieces = {0, 5, 9, 17};
        for (int k = 0; k < pieces.length; k++) {
            for (int what = 0; what <= 5; what++) {
                int piece = pieces[k];
                int asked = what;
                e.tells(Houses::busy, "about(" + piece + ", " + what + ")", x -> x.about(piece, asked), want[k][what]);
            }
        }
    }

    private void aboutChip() {
        e.sentence("Promise 4", "2 whether its CHIP can be read (1, 0),");
        e.tells(Houses::busy, "of piece 16", x -> x.about(16, 2), 0);
        e.tells(Houses::busy, "of piece 17", x -> x.about(17, 2), 1);
    }

    private void aboutBatch() {
        e.sentence("Promise 4", "5 its BATCH (NONE).");
        LinenTunnel x = Houses.after(Houses.waiting(12));
        for (int p = 0; p < 12; p++) {
            e.is("of piece " + p, x.about(p, 5), p);
        }
        Houses.addSoiled(x, 0, 1);
        e.is("of one that is SOILED", x.about(12, 5), NONE);
        x.swap(0, 11);
        e.is("a swap leaves it", x.about(0, 5), 0);
        x.undo();
        e.is("of an undone one", x.about(0, 5), NONE);
        e.is("of the next one", x.about(1, 5), 0);
        x.wash();
        for (int p = 0; p < 12; p++) {
            e.is("behind the wash: of piece " + p, x.about(p, 5), NONE);
        }
    }

    private void aboutBad() {
        e.sentence("Promise 4", "BAD");
        e.noneIsGood(Houses::empty, "piece where there is none", (x, v) -> x.about(v, 0), BAD);
        e.range(Houses::busy, "piece of 18", 0, 17, (x, v) -> x.about(v, 0), v -> v % 3);
        e.range(Houses::full, "piece of 100", 0, 99, (x, v) -> x.about(v, 1), v -> v % 6);
        e.range(Houses::busy, "what", 0, 5, (x, v) -> x.about(7, v), v -> new int[] {1, 1, 1, 2, 0, 2}[v]);
    }

    // ---- 5: chip

    private void chipFromNowOn() {
        e.sentence("Promise 5", "A CHIP can be read, or not, from now on: 1.");
        for (int piece : new int[] {0, 1, 10, 12, 17}) {
            for (boolean can : new boolean[] {false, true}) {
                LinenTunnel x = Houses.after(Houses::busy);
                int place = x.about(piece, 3);
                e.is("at place " + place, x.chip(piece, can), 1);
                e.is("then it is", x.about(piece, 2), can ? 1 : 0);
                e.is("once more", x.chip(piece, can), 1);
                e.is("the other way", x.chip(piece, !can), 1);
                e.is("then it isn't", x.about(piece, 2), can ? 0 : 1);
                e.is("it stays where it is", x.about(piece, 3), place);
            }
        }
        LinenTunnel y = Houses.after(Houses::busy);
        y.put(0, 0, 0, 16);
        e.is("one that the reader can't read", y.scan(0, 1), 0);
        y.chip(16, true);
        e.is("from now on it can", y.scan(0, 1), 1);
    }

    private void chipBad() {
        e.sentence("Promise 5", "BAD");
        e.noneIsGood(Houses::empty, "piece where there is none", (x, v) -> x.chip(v, true), BAD);
        e.range(Houses::busy, "piece of 18", 0, 17, (x, v) -> x.chip(v, false), v -> 1);
        e.range(Houses::full, "piece of 100", 0, 99, (x, v) -> x.chip(v, false), v -> 1);
    }

    // ---- 6: lost

    private void lostOnes() {
        e.sentence("Promise 6", "A PIECE that is OUT, SOILED or CLEAN is LOST");
        for (int piece : new int[] {12, 10, 1}) {
            LinenTunnel x = Houses.after(Houses::busy);
            int washes = x.about(piece, 4);
            e.is("from place " + x.about(piece, 3), x.lost(piece), 4);
            e.is("its place", x.about(piece, 3), 4);
            e.is("its washes", x.about(piece, 4), washes);
            e.is("its batch", x.about(piece, 5), NONE);
        }
    }

    private void lostIsOut() {
        e.sentence("Promise 6", "one that is LOST is OUT");
        for (int piece : new int[] {9, 17}) {
            LinenTunnel x = Houses.after(Houses::busy);
            e.is("piece " + piece, x.lost(piece), 0);
            e.is("its place", x.about(piece, 3), 0);
            e.is("it can be taken in", x.hand(piece), 1);
        }
    }

    private void lostTellsThePlace() {
        e.sentence("Promise 6", "its PLACE then");
        LinenTunnel x = Houses.after(Houses.pieces(2));
        for (int step = 0; step < 6; step++) {
            int told = x.lost(0);
            e.is("lost", told, step % 2 == 0 ? 4 : 0);
            e.is("its place", x.about(0, 3), told);
            e.is("the other one stays", x.about(1, 3), 0);
        }
    }

    private void lostBad() {
        e.sentence("Promise 6", "BAD");
        e.noneIsGood(Houses::empty, "piece where there is none", (x, v) -> x.lost(v), BAD);
        int[] want = {NOT, 4, 4, 4, 4, NOT, 4, NOT, NOT, 0, 4, 4, 4, 4, 4, 4, 4, 0};
        e.range(Houses::busy, "piece of 18", 0, 17, (x, v) -> x.lost(v), v -> want[v]);
        e.range(Houses.pieces(100), "piece of 100", 0, 99, (x, v) -> x.lost(v), v -> 4);
    }

    private void lostInABatch() {
        e.sentence("Promise 6", "NOT: it is in a BATCH");
        for (int piece : new int[] {0, 5, 7, 8}) {
            e.refuses(Houses::busy, "piece " + piece, x -> x.lost(piece), NOT);
        }
        LinenTunnel x = Houses.after(Houses.waiting(1));
        e.is("while it waits", x.lost(0), NOT);
        x.undo();
        e.is("as it is undone", x.lost(0), 4);
        LinenTunnel y = Houses.after(Houses.waiting(1));
        y.wash();
        e.is("as it is washed", y.lost(0), 4);
    }

    // ---- 7: again

    private void againClean() {
        e.sentence("Promise 7", "A PIECE that is CLEAN is SOILED again: 1.");
        LinenTunnel x = Houses.after(Houses.clean(2));
        e.is("again(0)", x.again(0), 1);
        e.places("again(0)", x, 1, 3);
        e.is("its washes stay", x.about(0, 4), 1);
        e.is("it can be put in a batch", x.batch(0, -1, 20), 1);
    }

    private void againBad() {
        e.sentence("Promise 7", "BAD");
        e.noneIsGood(Houses::empty, "piece where there is none", (x, v) -> x.again(v), BAD);
        e.range(Houses::busy, "piece of 18", 0, 17, (x, v) -> x.again(v), v -> v >= 1 && v <= 4 || v == 6 ? 1 : NOT);
        e.range(Houses.clean(100), "piece of 100", 0, 99, (x, v) -> x.again(v), v -> 1);
    }

    private void againNot() {
        e.sentence("Promise 7", "NOT");
        e.refuses(Houses::busy, "OUT", x -> x.again(12), NOT);
        e.refuses(Houses::busy, "SOILED", x -> x.again(10), NOT);
        e.refuses(Houses::busy, "in a BATCH", x -> x.again(0), NOT);
        e.refuses(Houses::busy, "LOST", x -> x.again(9), NOT);
        LinenTunnel x = Houses.after(Houses.clean(1));
        x.again(0);
        e.is("twice", x.again(0), NOT);
        LinenTunnel y = Houses.after(Houses.clean(1));
        y.pack(0, 0, 1);
        e.is("packed", y.again(0), NOT);
    }

    // ---- 8: pieces

    private void piecesOfOwners() {
        e.sentence("Promise 8", "How many PIECES of an OWNER (-1: any)");
        for (int n : new int[] {0, 1, 6, 7, 99, 100}) {
            int there = n;
            e.tells(Houses.pieces(n), "any, of " + n, x -> x.pieces(-1, 0, 0), n);
            for (int owner = 0; owner <= 5; owner++) {
                int of = owner;
                e.tells(Houses.pieces(n), "of " + owner + ", of " + n, x -> x.pieces(of, 0, 0), (there + 5 - of) / 6);
            }
        }
    }

    private void piecesOfKinds() {
        e.sentence("Promise 8", ", a KIND (-1: any)");
        e.tells(Houses::full, "any kind", x -> x.pieces(-1, -1, 0), 10);
        e.tells(Houses::full, "any kind of owner 0: 90, 96", x -> x.pieces(0, -1, 0), 2);
        e.tells(Houses::full, "kind 0: 96", x -> x.pieces(-1, 0, 0), 1);
        e.tells(Houses::full, "kind 7: 95", x -> x.pieces(-1, 7, 0), 1);
        e.tells(Houses::full, "kind 2: 90, 98", x -> x.pieces(-1, 2, 0), 2);
        e.tells(Houses::full, "kind 2 of owner 0: 90", x -> x.pieces(0, 2, 0), 1);
        e.tells(Houses::full, "kind 2 of owner 1", x -> x.pieces(1, 2, 0), 0);
        e.tells(Houses::empty, "none there", x -> x.pieces(-1, -1, 0), 0);
    }

    private void piecesAtPlaces() {
        e.sentence("Promise 8", "are at a PLACE");
        int[] want = {5, 2, 4, 5, 2};
        for (int place = 0; place <= 4; place++) {
            int at = place;
            e.tells(Houses::busy, "at " + place, x -> x.pieces(-1, -1, at), want[place]);
        }
        e.tells(Houses.clean(100), "all of them", x -> x.pieces(0, 0, 3), 100);
    }

    private void piecesBad() {
        e.sentence("Promise 8", "BAD");
        e.range(Houses::busy, "owner", -1, 5, (x, v) -> x.pieces(v, 0, 3), v -> v == -1 ? 2 : v == 0 || v == 3 ? 1 : 0);
        e.range(Houses::busy, "kind of three", -1, 2, (x, v) -> x.pieces(-1, v, 3), v -> new int[] {5, 2, 2, 1}[v + 1]);
        e.range(Houses::busy, "place", 0, 4, (x, v) -> x.pieces(-1, -1, v), v -> new int[] {5, 2, 4, 5, 2}[v]);
        e.range(Houses::full, "kind of eight", -1, 7, (x, v) -> x.pieces(5, v, 4), v -> 0);
        e.range(Houses::empty, "kind where there is none", -1, -1, (x, v) -> x.pieces(-1, v, 0), v -> 0);
    }

    // ---- 9: scan

    private void scanFirstItems() {
        e.sentence("Promise 9", "The first n items (0 to 60) of a SHEET are told by the reader as PIECES");
        for (int n = 0; n <= 60; n++) {
            LinenTunnel x = Houses.after(Houses.pieces(62).andThen(Houses.rising(1, 60)));
            e.is("the first " + n, x.scan(0, n), n);
            e.is("piece 0 is none of them", x.about(0, 3), 0);
            e.is("the last of them: " + n, x.about(n, 3), n == 0 ? 0 : 1);
            e.is("the next one", x.about(n + 1, 3), 0);
        }
        for (int form = 0; form <= 2; form++) {
            LinenTunnel x = Houses.after(Houses.pieces(9).andThen(Houses.rising(form, 9)));
            e.is("of form " + form, x.scan(0, 9), 8);
            e.is("the sheet stays", x.get(0, form, 8), 9);
        }
    }

    private void scanTakesIn() {
        e.sentence("Promise 9", "each that is OUT, and whose CHIP can be read, is SOILED then");
        LinenTunnel x = Houses.after(Houses::busy);
        e.is("12 to 16, two of them without a chip", x.scan(0, 5), 3);
        e.places("then", x, 2, 3, 3, 3, 3, 2, 3, 2, 2, 4, 1, 1, 0, 1, 1, 1, 0, 4);
    }

    private void scanPassesOver() {
        e.sentence("Promise 9", "others (no such PIECE, too) are passed over");
        int[] others = {18, 100, GREATEST, -1, LEAST, 9, 10, 0};
        for (int other : others) {
            LinenTunnel x = Houses.after(Houses::busy);
            x.put(2, 2, 0, other);
            x.put(2, 2, 1, 13);
            e.is("item " + other + " alone", x.scan(2, 1), 0);
            e.is("item " + other + " ahead of 13", x.scan(2, 2), 1);
            e.is("no finding", x.count(6), 0);
        }
        e.tells(x -> {
            Houses.empty(x);
            x.sheet(0, 0, 60);
        }, "where there are none", x -> x.scan(0, 60), 0);
    }

    private void scanTellsHowMany() {
        e.sentence("Promise 9", "how many came");
        LinenTunnel x = Houses.after(Houses.pieces(3));
        x.sheet(3, 2, 60);
        e.is("one that is told sixty times", x.scan(3, 60), 1);
        e.is("once more", x.scan(3, 60), 0);
        x.put(3, 2, 59, 2);
        e.is("the sixtieth", x.scan(3, 60), 1);
        e.places("then", x, 1, 0, 1);
    }

    private void scanBad() {
        e.sentence("Promise 9", "BAD: the SHEET, n");
        e.range(Houses::busy, "sheet", 0, 3, (x, v) -> x.scan(v, 0), v -> v == 3 ? NULL : 0);
        e.range(Houses::busy, "n of sixty items", 0, 60, (x, v) -> x.scan(1, v), v -> 0);
        e.range(Houses::busy, "n of a LOST one", 0, 60, (x, v) -> x.scan(3, v), v -> NULL);
    }

    private void scanNull() {
        e.sentence("Promise 9", "NULL");
        e.refuses(Houses::busy, "none of it", x -> x.scan(3, 0), NULL);
        e.refuses(Houses::busy, "all of it", x -> x.scan(3, 60), NULL);
        e.refuses(x -> {
            Houses.busy(x);
            x.lose(0);
        }, "one that was there", x -> x.scan(0, 5), NULL);
    }

    private void scanIndex() {
        e.sentence("Promise 9", "INDEX");
        e.range(Houses.pieces(9).andThen(Houses.rising(1, 5)), "n of five items", 0, 60,
            (x, v) -> x.scan(0, v), v -> v <= 5 ? v : INDEX);
        e.refuses(Houses::busy, "five, and one more", x -> x.scan(0, 6), INDEX);
        e.refuses(Houses::busy, "five, and sixty are told", x -> x.scan(0, 60), INDEX);
        e.refuses(Houses.pieces(9).andThen(Houses.rising(1, 0)), "none, and one is told", x -> x.scan(0, 1), INDEX);
        e.refuses(Houses.pieces(99).andThen(Houses.rising(1, 59)), "59, and sixty are told", x -> x.scan(0, 60), INDEX);
        e.is("none of none", Houses.after(Houses.rising(1, 0)).scan(0, 0), 0);
    }

    // ---- 10: hand

    private void handTakesIn() {
        e.sentence("Promise 10", "A PIECE that is OUT is taken in by hand: 1.");
        for (boolean can : new boolean[] {false, true}) {
            LinenTunnel x = Houses.after(Houses.kinds(1));
            x.piece(0, 0, can);
            x.piece(0, 0, can);
            e.is("chip " + can, x.hand(1), 1);
            e.places("chip " + can, x, 0, 1);
            e.is("its chip stays", x.about(1, 2), can ? 1 : 0);
        }
    }

    private void handBad() {
        e.sentence("Promise 10", "BAD");
        e.noneIsGood(Houses::empty, "piece where there is none", (x, v) -> x.hand(v), BAD);
        e.range(Houses::busy, "piece of 18", 0, 17, (x, v) -> x.hand(v), v -> v >= 12 && v <= 16 ? 1 : NOT);
        e.range(Houses.pieces(100), "piece of 100", 0, 99, (x, v) -> x.hand(v), v -> 1);
    }

    private void handNot() {
        e.sentence("Promise 10", "NOT");
        e.refuses(Houses::busy, "SOILED", x -> x.hand(10), NOT);
        e.refuses(Houses::busy, "in a BATCH", x -> x.hand(0), NOT);
        e.refuses(Houses::busy, "CLEAN", x -> x.hand(1), NOT);
        e.refuses(Houses::busy, "LOST", x -> x.hand(9), NOT);
        LinenTunnel x = Houses.after(Houses.pieces(1));
        x.hand(0);
        e.is("twice", x.hand(0), NOT);
    }
}
