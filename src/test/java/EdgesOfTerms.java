/** The sentences of the terms 1, 2 and 4 that name a boundary, and of the refusals. */
final class EdgesOfTerms {
    private static final int BAD = Edges.BAD, FULL = Edges.FULL, NOT = Edges.NOT;
    private static final int NULL = Edges.NULL, INDEX = Edges.INDEX, CAST = Edges.CAST;
    private static final int STORE = Edges.STORE, SIZE = Edges.SIZE;
    private static final int LEAST = Edges.LEAST, GREATEST = Edges.GREATEST;

    private final Edges e;

    EdgesOfTerms(Edges edges) {
        e = edges;
    }

    void all() {
        calls();
        kindNumbers();
        heats();
        colours();
        foul();
        drying();
        ironing();
        pieceNumbers();
        piecesOfKinds();
        owners();
        chips();
        places();
        washesOfPieces();
        batchNumbers();
        batchSizes();
        allThatWait();
        lastComesLast();
        noEmpties();
        emptiesOfColours();
        emptiesOfHeats();
        emptiesOfFoul();
        emptiesTogether();
        sheetNumbers();
        sheetsAreLost();
        forms();
        sheetSizes();
        findings();
        findingNull();
        findingIndex();
        findingCast();
        findingStore();
        findingSize();
        twoFit();
        twoFindingsFit();
        refusalsChangeNothing();
        findingsChangeCountSixAlone();
    }

    private void calls() {
        e.sentence("What it is", "An object is used for at most 512 calls");
        LinenTunnel x = new LinenTunnel();
        x.kind(0, 0, false, 1, 1);
        x.piece(0, 0, true);
        x.hand(0);
        x.batch(0, -1, 1);
        x.wash();
        for (int call = 6; call < 510; call += 3) {
            e.is("call " + call, x.again(0), 1);
            e.is("call " + (call + 1), x.batch(0, -1, 1), 1);
            e.is("call " + (call + 2), x.wash(), 5);
        }
        e.is("call 510", x.about(0, 4), 169);
        e.is("call 511", x.pack(0, 0, 1), 1);
        e.is("call 512", x.pieces(0, 0, 0), 1);
    }

    // ---- 1: kinds, pieces

    private void kindNumbers() {
        e.sentence("Terms", "KINDS 0 .. 7 (8 at most)");
        for (int n = 0; n <= 7; n++) {
            LinenTunnel x = Houses.after(Houses.kinds(n));
            e.is("one behind " + n, x.kind(0, 0, false, 0, 0), n);
            e.is("then there are", x.count(0), n + 1);
            e.is("the last one is there", x.between(n, 0), 0);
            e.is("the next one isn't", x.between(n + 1, 0), BAD);
        }
        e.refuses(Houses.kinds(8), "the ninth", x -> x.kind(0, 0, false, 0, 0), FULL);
    }

    private void heats() {
        e.sentence("Terms", "have a HEAT (0 to 3)");
        e.range(Houses::empty, "heat", 0, 3, (x, v) -> x.kind(v, 0, false, 0, 0), v -> 0);
        e.range(Houses::busy, "heat", 0, 3, (x, v) -> x.kind(v, 2, true, 9, 9), v -> 3);
    }

    private void colours() {
        e.sentence("Terms", "a COLOUR (0 white, 1 light, 2 dark)");
        e.range(Houses::empty, "colour", 0, 2, (x, v) -> x.kind(0, v, false, 0, 0), v -> 0);
        e.range(Houses::busy, "colour", 0, 2, (x, v) -> x.kind(3, v, true, 9, 9), v -> 3);
    }

    private void foul() {
        e.sentence("Terms", "are FOUL or not");
        for (boolean first : new boolean[] {false, true}) {
            for (boolean next : new boolean[] {false, true}) {
                LinenTunnel x = new LinenTunnel();
                e.is("foul " + first, x.kind(0, 0, first, 0, 0), 0);
                e.is("foul " + next, x.kind(0, 0, next, 0, 0), 1);
                e.is(first + " ahead of " + next, x.between(0, 1), first && !next ? 2 : 0);
            }
        }
    }

    private void drying() {
        e.sentence("Terms", "take DRY (0 to 9)");
        e.range(Houses::empty, "dry", 0, 9, (x, v) -> x.kind(0, 0, false, v, 0), v -> 0);
        e.range(Houses::busy, "dry", 0, 9, (x, v) -> x.kind(3, 2, true, v, 9), v -> 3);
    }

    private void ironing() {
        e.sentence("Terms", "and IRON (0 to 9) BEATS");
        e.range(Houses::empty, "iron", 0, 9, (x, v) -> x.kind(0, 0, false, 0, v), v -> 0);
        e.range(Houses::busy, "iron", 0, 9, (x, v) -> x.kind(3, 2, true, 9, v), v -> 3);
    }

    private void pieceNumbers() {
        e.sentence("Terms", "PIECES 0 .. 99 (100 at most)");
        LinenTunnel x = Houses.after(Houses.kinds(1));
        for (int n = 0; n <= 99; n++) {
            e.is("number " + n + " isn't there", x.about(n, 0), BAD);
            e.is("one behind " + n, x.piece(0, 0, true), n);
            e.is("number " + n + " is there", x.about(n, 0), 0);
        }
        e.is("there are", x.count(1), 100);
        e.is("number 100 isn't there", x.about(100, 0), BAD);
        e.refuses(Houses.pieces(100), "the 101st", y -> y.piece(0, 0, true), FULL);
    }

    private void piecesOfKinds() {
        e.sentence("Terms", "are of a KIND");
        e.noneIsGood(Houses::empty, "kind", (x, v) -> x.piece(v, 0, true), BAD);
        e.range(Houses.kinds(1), "kind", 0, 0, (x, v) -> x.piece(v, 0, true), v -> 0);
        e.range(Houses.kinds(8), "kind", 0, 7, (x, v) -> x.about(x.piece(v, 0, true), 0), v -> v);
    }

    private void owners() {
        e.sentence("Terms", "have an OWNER (0 to 5)");
        e.range(Houses.kinds(1), "owner", 0, 5, (x, v) -> x.piece(0, v, true), v -> 0);
        for (int owner = 0; owner <= 5; owner++) {
            LinenTunnel x = Houses.after(Houses.kinds(1));
            e.is("of owner " + owner, x.about(x.piece(0, owner, false), 1), owner);
        }
    }

    private void chips() {
        e.sentence("Terms", "a CHIP that can be read or not");
        LinenTunnel x = Houses.after(Houses.kinds(1));
        e.is("one that can", x.about(x.piece(0, 0, true), 2), 1);
        e.is("one that can't", x.about(x.piece(0, 0, false), 2), 0);
    }

    private void places() {
        e.sentence("Terms", "and are at a PLACE: 0 OUT (with their OWNER, at first), 1 SOILED, 2 in a BATCH, 3 CLEAN, 4 LOST");
        LinenTunnel x = Houses.after(Houses.pieces(1));
        e.places("at first", x, 0);
        x.hand(0);
        e.places("taken in", x, 1);
        x.batch(0, -1, 1);
        e.places("in a batch", x, 2);
        x.wash();
        e.places("washed", x, 3);
        x.lost(0);
        e.places("lost", x, 4);
        for (int place = 0; place <= 4; place++) {
            e.is("at place " + place, x.pieces(-1, -1, place), place == 4 ? 1 : 0);
        }
    }

    private void washesOfPieces() {
        e.sentence("Terms", "they count their WASHES");
        LinenTunnel x = Houses.after(Houses.soiled(2));
        for (int wash = 1; wash <= 120; wash++) {
            e.is("before wash " + wash, x.about(0, 4), wash - 1);
            x.batch(0, -1, 1);
            x.wash();
            x.again(0);
        }
        e.is("behind the last", x.about(0, 4), 120);
        e.is("of the other one", x.about(1, 4), 0);
    }

    // ---- 2: batches

    private void batchNumbers() {
        e.sentence("Terms", "BATCHES 0 .. 11 (12 at most wait)");
        LinenTunnel x = Houses.after(Houses.soiled(20));
        for (int n = 0; n <= 11; n++) {
            e.is("number " + n + " isn't there", x.of(n, 0), BAD);
            e.is("one behind " + n, x.batch(0, -1, 1), 1);
            e.is("number " + n + " is there", x.of(n, 0), 0);
            e.is("its piece tells it", x.about(n, 5), n);
        }
        e.is("there wait", x.count(2), 12);
        e.is("number 12 isn't there", x.of(12, 0), BAD);
        e.refuses(Houses::full, "the thirteenth", y -> y.batch(7, -1, 1), FULL);
    }

    private void batchSizes() {
        e.sentence("Terms", "are rows of 1 to 20 PIECES of one KIND");
        for (int there = 1; there <= 22; there++) {
            LinenTunnel x = Houses.after(Houses.soiled(there));
            int size = Math.min(there, 20);
            e.is("of " + there, x.batch(0, -1, 20), size);
            e.is("it has", x.of(0, 1), size);
            e.is("its last one", x.of(0, 10 + size - 1), size - 1);
            e.is("there is no more", x.of(0, 10 + size), BAD);
            e.is("left of " + there, x.pieces(-1, -1, 1), there - size);
        }
        e.refuses(Houses.soiled(0), "of none", x -> x.batch(0, -1, 20), NOT);
        LinenTunnel y = Houses.after(Houses.kinds(2));
        Houses.addSoiled(y, 0, 2);
        Houses.addSoiled(y, 1, 3);
        Houses.addSoiled(y, 0, 4);
        e.is("of one kind alone", y.batch(0, -1, 20), 6);
        e.places("of one kind alone", y, 2, 2, 1, 1, 1, 2, 2, 2, 2);
    }

    private void allThatWait() {
        e.sentence("Terms", "THE ORDER is a row of all that wait");
        for (int n : new int[] {0, 1, 2, 11, 12}) {
            LinenTunnel x = Houses.after(Houses.waiting(n));
            int[] want = new int[n];
            for (int k = 0; k < n; k++) {
                want[k] = k;
            }
            e.order(n + " wait", x, want);
        }
    }

    private void lastComesLast() {
        e.sentence("Terms", "one that comes stands last");
        LinenTunnel x = Houses.after(Houses.waiting(3));
        x.swap(0, 2);
        Houses.addBatches(x, 0);
        e.order("behind others", x, 2, 1, 0, 3);
        x.swap(3, 0);
        Houses.addBatches(x, 0);
        e.order("behind a lesser one", x, 3, 1, 0, 2, 4);
    }

    private void noEmpties() {
        e.sentence("Terms", "BETWEEN a BATCH a and the next one b are so many EMPTIES: 0,");
        LinenTunnel x = Houses.after(Houses.kinds(2));
        Houses.addBatches(x, 0, 1, 0);
        e.is("of like kinds", x.between(0, 1), 0);
        e.is("of a kind with itself", x.between(1, 1), 0);
        e.is("of their order", x.empties(), 0);
    }

    private void emptiesOfColours() {
        e.sentence("Terms", "and 1 for each step by which b's COLOUR is lighter than a's");
        for (int a = 0; a <= 2; a++) {
            for (int b = 0; b <= 2; b++) {
                e.is(a + " ahead of " + b, gap(0, a, false, 0, b, false), Math.max(0, a - b));
                e.is(a + " ahead of " + b + ", both foul", gap(3, a, true, 3, b, true), Math.max(0, a - b));
            }
        }
    }

    private void emptiesOfHeats() {
        e.sentence("Terms", "and 1, if their HEATS differ by more than 1");
        for (int a = 0; a <= 3; a++) {
            for (int b = 0; b <= 3; b++) {
                int want = a - b > 1 || b - a > 1 ? 1 : 0;
                e.is(a + " ahead of " + b, gap(a, 0, false, b, 0, false), want);
                e.is(a + " ahead of " + b + ", to a darker one", gap(a, 1, true, b, 2, true), want);
            }
        }
    }

    private void emptiesOfFoul() {
        e.sentence("Terms", "and 2, if a's KIND is FOUL and b's is not");
        e.is("foul, not", gap(0, 0, true, 0, 0, false), 2);
        e.is("not, foul", gap(0, 0, false, 0, 0, true), 0);
        e.is("foul, foul", gap(0, 0, true, 0, 0, true), 0);
        e.is("not, not", gap(0, 0, false, 0, 0, false), 0);
        e.is("with all the rest: the most", gap(3, 2, true, 1, 0, false), 5);
        e.is("with all the rest, the other way", gap(1, 0, false, 3, 2, true), 1);
    }

    private void emptiesTogether() {
        e.sentence("Terms", "EMPTIES of an ORDER: of each two next to one another, together");
        e.is("of none", Houses.after(Houses::empty).empties(), 0);
        e.is("of one", Houses.after(Houses.waiting(1)).empties(), 0);
        LinenTunnel x = new LinenTunnel();
        x.kind(3, 2, true, 0, 0);
        x.kind(1, 0, false, 0, 0);
        Houses.addBatches(x, 0, 1, 0, 1, 0, 1, 0, 1, 0, 1, 0, 1);
        e.is("of twelve: six times 5, five times 1", x.empties(), 35);
        x.swap(0, 11);
        e.is("of twelve, two of them changed: 1, 0, 5, 1, 5, 1, 5, 1, 5, 0, 1", x.empties(), 25);
    }

    private static int gap(int heatA, int colourA, boolean foulA, int heatB, int colourB, boolean foulB) {
        LinenTunnel x = new LinenTunnel();
        x.kind(heatA, colourA, foulA, 9, 9);
        x.kind(heatB, colourB, foulB, 0, 0);
        return x.between(0, 1);
    }

    // ---- 4: sheets

    private void sheetNumbers() {
        e.sentence("Terms", "SHEETS 0 .. 3");
        e.range(Houses::busy, "of sheet()", 0, 3, (x, v) -> x.sheet(v, 0, 3), v -> 3);
        e.range(Houses::busy, "of lose()", 0, 3, (x, v) -> x.lose(v), v -> new int[] {5, 60, 7, NULL}[v]);
        e.range(Houses::busy, "of put()", 0, 3, (x, v) -> x.put(v, 2, 0, 1), v -> new int[] {CAST, CAST, 1, NULL}[v]);
        e.range(Houses::busy, "of get()", 0, 3, (x, v) -> x.get(v, 0, 0), v -> v == 0 ? 12 : LEAST, LEAST);
        e.range(Houses::busy, "of scan()", 0, 3, (x, v) -> x.scan(v, 0), v -> v == 3 ? NULL : 0);
        e.range(Houses::busy, "of list()", 0, 3, (x, v) -> x.list(v, -1, 1), v -> v == 3 ? NULL : 2);
        e.range(Houses::busy, "of copy() from", 0, 3, (x, v) -> x.copy(v, 0, 1, 0, 0), v -> new int[] {STORE, 1, STORE, NULL}[v]);
        e.range(Houses::busy, "of copy() to", 0, 3, (x, v) -> x.copy(1, 0, v, 0, 0), v -> new int[] {STORE, 1, STORE, NULL}[v]);
    }

    private void sheetsAreLost() {
        e.sentence("Terms", "are LOST (at first)");
        for (int s = 0; s <= 3; s++) {
            int sheet = s;
            e.refuses(Houses::empty, "lose(" + s + ")", x -> x.lose(sheet), NULL);
        }
        LinenTunnel x = new LinenTunnel();
        x.sheet(1, 0, 1);
        e.is("the one ahead of a new one", x.lose(0), NULL);
        e.is("the one behind a new one", x.lose(2), NULL);
    }

    private void forms() {
        e.sentence("Terms", "or a row of a FORM: 0 bytes, 1 shorts, 2 ints,");
        e.range(Houses::empty, "form of sheet()", 0, 2, (x, v) -> x.sheet(3, v, 2), v -> 2);
        e.range(Houses::busy, "form of put()", 0, 2, (x, v) -> x.put(1, v, 0, 1), v -> v == 1 ? 1 : CAST);
        e.range(Houses::busy, "form of get()", 0, 2, (x, v) -> x.get(1, v, 59), v -> v == 1 ? -1000 : LEAST, LEAST);
        int[] ends = {-128, 127, -32768, 32767, LEAST, GREATEST};
        for (int form = 0; form <= 2; form++) {
            LinenTunnel x = Houses.after(Houses.rising(form, 2));
            x.put(0, form, 0, ends[2 * form]);
            x.put(0, form, 1, ends[2 * form + 1]);
            e.items("the ends of form " + form, x, 0, form, ends[2 * form], ends[2 * form + 1]);
        }
    }

    private void sheetSizes() {
        e.sentence("Terms", "of 0 to 60 items (0 at first)");
        for (int form = 0; form <= 2; form++) {
            for (int n = 0; n <= 60; n++) {
                LinenTunnel x = Houses.after(Houses.rising(form, 60));
                e.is("items told", x.sheet(0, form, n), n);
                int kept = 0;
                for (int i = 0; i < n; i++) {
                    kept += x.get(0, form, i) == 0 ? 0 : 1;
                }
                e.is("items of " + n + " that are not 0 at first", kept, 0);
                e.is("item " + n + " of " + n, x.get(0, form, n), LEAST);
                e.is("items there", x.lose(0), n);
            }
        }
        e.refuses(Houses::busy, "61 items", x -> x.sheet(0, 0, 61), BAD);
        e.refuses(Houses::busy, "the most items", x -> x.sheet(0, 0, GREATEST), BAD);
    }

    private void findings() {
        e.sentence("Terms", "FINDINGS (answers -10 less the number; they change nothing but count() 6)");
        e.refuses(Houses::busy, "1", x -> x.lose(3), -11);
        e.refuses(Houses::busy, "2", x -> x.scan(0, 6), -12);
        e.refuses(Houses::busy, "3", x -> x.put(0, 1, 0, 9), -13);
        e.refuses(Houses::busy, "4", x -> x.copy(0, 0, 2, 0, 1), -14);
        e.refuses(Houses::busy, "5", x -> x.sheet(0, 0, -1), -15);
    }

    private void findingNull() {
        e.sentence("Terms", "1 NULL: the SHEET is LOST");
        e.refuses(Houses::busy, "lose", x -> x.lose(3), NULL);
        e.refuses(Houses::busy, "put", x -> x.put(3, 0, 0, 1), NULL);
        e.refuses(Houses::busy, "get", x -> x.get(3, 0, 0), LEAST, 1);
        e.refuses(Houses::busy, "scan", x -> x.scan(3, 0), NULL);
        e.refuses(Houses::busy, "list", x -> x.list(3, -1, 0), NULL);
        e.refuses(Houses::busy, "copy from", x -> x.copy(3, 0, 0, 0, 0), NULL);
        e.refuses(Houses::busy, "copy to", x -> x.copy(0, 0, 3, 0, 0), NULL);
        e.refuses(x -> {
            Houses.busy(x);
            x.lose(1);
        }, "one that was there", x -> x.put(1, 1, 0, 1), NULL);
    }

    private void findingIndex() {
        e.sentence("Terms", "2 INDEX: there is no such item");
        for (int i : new int[] {-1, 7, 8, 59, 60, LEAST, GREATEST}) {
            e.refuses(Houses::busy, "put " + i + " of 7", x -> x.put(2, 2, i, 1), INDEX);
            e.refuses(Houses::busy, "get " + i + " of 7", x -> x.get(2, 2, i), LEAST, 2);
        }
        for (int i : new int[] {-1, 60, LEAST, GREATEST}) {
            e.refuses(Houses::busy, "put " + i + " of 60", x -> x.put(1, 1, i, 1), INDEX);
            e.refuses(Houses::busy, "get " + i + " of 60", x -> x.get(1, 1, i), LEAST, 2);
        }
        e.refuses(Houses.rising(0, 0), "put 0 of none", x -> x.put(0, 0, 0, 1), INDEX);
        e.refuses(Houses.rising(0, 0), "get 0 of none", x -> x.get(0, 0, 0), LEAST, 2);
        LinenTunnel y = Houses.after(Houses::busy);
        e.is("put 0 of 7", y.put(2, 2, 0, 1), 1);
        e.is("put 6 of 7", y.put(2, 2, 6, 3), 1);
        e.is("get 0 of 7", y.get(2, 2, 0), 1);
        e.is("get 6 of 7", y.get(2, 2, 6), 3);
    }

    private void findingCast() {
        e.sentence("Terms", "3 CAST: it has another FORM");
        for (int s = 0; s <= 2; s++) {
            for (int form = 0; form <= 2; form++) {
                int sheet = s;
                int other = form;
                if (s != form) {
                    e.refuses(Houses::busy, "put in " + s + " as " + form, x -> x.put(sheet, other, 0, 1), CAST);
                    e.refuses(Houses::busy, "get of " + s + " as " + form, x -> x.get(sheet, other, 0), LEAST, 3);
                }
            }
        }
    }

    private void findingStore() {
        e.sentence("Terms", "4 STORE: unlike FORMS");
        for (int s = 0; s <= 2; s++) {
            for (int t = 0; t <= 2; t++) {
                int from = s;
                int to = t;
                if (s != t) {
                    e.refuses(Houses::busy, "from " + s + " to " + t, x -> x.copy(from, 0, to, 0, 1), STORE);
                    e.refuses(Houses::busy, "none from " + s + " to " + t, x -> x.copy(from, 0, to, 0, 0), STORE);
                } else {
                    e.is("from " + s + " to itself", Houses.after(Houses::busy).copy(s, 0, s, 0, 1), 1);
                }
            }
        }
    }

    private void findingSize() {
        e.sentence("Terms", "5 SIZE: below 0");
        e.refuses(Houses::busy, "-1", x -> x.sheet(0, 0, -1), SIZE);
        e.refuses(Houses::busy, "the least", x -> x.sheet(0, 0, LEAST), SIZE);
        e.refuses(Houses::busy, "-1 of a LOST sheet", x -> x.sheet(3, 2, -1), SIZE);
        e.is("0", Houses.after(Houses::busy).sheet(0, 0, 0), 0);
    }

    // ---- refusals

    private void twoFit() {
        e.sentence("Terms", "Refusals, the first that fits: BAD -2 (a number not as told, no such thing), FULL -3, NOT -4 (as told), FINDINGS.");
        e.refuses(Houses::full, "kind: BAD, FULL", x -> x.kind(4, 0, false, 0, 0), BAD);
        e.refuses(Houses::full, "kind: BAD, FULL", x -> x.kind(0, 0, false, 0, 10), BAD);
        e.refuses(Houses::full, "piece: BAD, FULL", x -> x.piece(8, 0, true), BAD);
        e.refuses(Houses::full, "piece: BAD, FULL", x -> x.piece(0, 6, true), BAD);
        e.refuses(Houses::full, "batch: BAD, FULL", x -> x.batch(8, -1, 1), BAD);
        e.refuses(Houses::full, "batch: BAD, FULL", x -> x.batch(0, 6, 1), BAD);
        e.refuses(Houses::full, "batch: BAD, FULL", x -> x.batch(0, -1, 21), BAD);
        e.refuses(Houses.kinds(1), "batch: BAD, NOT", x -> x.batch(0, -1, 0), BAD);
        e.refuses(Houses.waiting(12), "batch: FULL, NOT", x -> x.batch(0, -1, 1), FULL);
        e.refuses(Houses.waiting(12), "batch: BAD, FULL, NOT", x -> x.batch(1, -1, 1), BAD);
        e.refuses(Houses::busy, "scan: BAD, NULL", x -> x.scan(3, 61), BAD);
        e.refuses(Houses::busy, "scan: BAD, NULL", x -> x.scan(3, -1), BAD);
        e.refuses(Houses::busy, "scan: BAD, INDEX", x -> x.scan(0, 61), BAD);
        e.refuses(Houses::busy, "sheet: BAD, SIZE", x -> x.sheet(4, 0, -1), BAD);
        e.refuses(Houses::busy, "sheet: BAD, SIZE", x -> x.sheet(0, 3, -1), BAD);
        e.refuses(Houses::busy, "put: BAD, NULL", x -> x.put(3, 3, 0, 1), BAD);
        e.refuses(Houses::busy, "put: BAD, CAST", x -> x.put(0, -1, 0, 1), BAD);
        e.refuses(Houses::busy, "put: BAD, INDEX", x -> x.put(0, 3, 5, 1), BAD);
        e.refuses(Houses::busy, "get: BAD, NULL", x -> x.get(3, 3, 0), LEAST, 0);
        e.refuses(Houses::busy, "get: BAD, CAST", x -> x.get(0, -1, 0), LEAST, 0);
        e.refuses(Houses::busy, "get: BAD, INDEX", x -> x.get(0, 3, 5), LEAST, 0);
        e.refuses(Houses::busy, "copy: BAD, NULL", x -> x.copy(3, 0, 4, 0, 1), BAD);
        e.refuses(Houses::busy, "copy: BAD, NULL", x -> x.copy(-1, 0, 3, 0, 1), BAD);
        e.refuses(Houses::busy, "copy: BAD, INDEX", x -> x.copy(0, -1, 4, 0, 1), BAD);
        e.refuses(Houses::busy, "list: BAD, NULL", x -> x.list(3, 6, 0), BAD);
        e.refuses(Houses::busy, "list: BAD, NULL", x -> x.list(3, -1, 5), BAD);
    }

    private void twoFindingsFit() {
        e.sentence("Terms", "the first that fits");
        e.refuses(Houses::busy, "scan: NULL, INDEX", x -> x.scan(3, 1), NULL);
        e.refuses(Houses::busy, "scan: NULL, INDEX", x -> x.scan(3, 60), NULL);
        e.refuses(Houses::busy, "put: NULL, INDEX", x -> x.put(3, 0, -1, 1), NULL);
        e.refuses(Houses::busy, "put: NULL, INDEX", x -> x.put(3, 2, GREATEST, 1), NULL);
        e.refuses(Houses::busy, "put: CAST, INDEX", x -> x.put(0, 1, 5, 1), CAST);
        e.refuses(Houses::busy, "put: CAST, INDEX", x -> x.put(0, 2, -1, 1), CAST);
        e.refuses(Houses::busy, "get: NULL, INDEX", x -> x.get(3, 0, -1), LEAST, 1);
        e.refuses(Houses::busy, "get: CAST, INDEX", x -> x.get(0, 1, 5), LEAST, 3);
        e.refuses(Houses::busy, "copy: NULL, INDEX", x -> x.copy(3, 0, 0, 0, 9), NULL);
        e.refuses(Houses::busy, "copy: NULL, INDEX", x -> x.copy(0, -1, 3, 0, 1), NULL);
        e.refuses(Houses::busy, "copy: STORE, INDEX", x -> x.copy(0, 0, 1, 0, 6), STORE);
        e.refuses(Houses::busy, "copy: STORE, INDEX", x -> x.copy(0, 0, 1, 60, 1), STORE);
        e.refuses(Houses::busy, "copy: STORE, INDEX", x -> x.copy(1, -1, 2, 0, 1), STORE);
        e.refuses(Houses::busy, "copy: STORE, INDEX", x -> x.copy(1, 0, 2, 0, -1), STORE);
    }

    private void refusalsChangeNothing() {
        e.sentence("Terms", "They change nothing");
        e.refuses(Houses::full, "kind", x -> x.kind(3, 2, true, 9, 9), FULL);
        e.refuses(Houses::full, "piece", x -> x.piece(7, 5, false), FULL);
        e.refuses(Houses::full, "batch", x -> x.batch(0, 3, 20), FULL);
        e.refuses(Houses::full, "plan", x -> x.plan(), NOT);
        e.refuses(Houses::full, "lost", x -> x.lost(0), NOT);
        e.refuses(Houses::full, "again", x -> x.again(0), NOT);
        e.refuses(Houses::full, "hand", x -> x.hand(0), NOT);
        e.refuses(Houses.clean(3), "undo", x -> x.undo(), NOT);
        e.refuses(Houses.clean(3), "wash", x -> x.wash(), NOT);
        e.refuses(Houses.clean(3), "batch", x -> x.batch(0, -1, 20), NOT);
        e.refuses(Houses.clean(3), "pack", x -> x.pack(0, 0, 4), -101);
        e.refuses(Houses::busy, "chip", x -> x.chip(18, true), BAD);
        e.refuses(Houses::busy, "swap", x -> x.swap(0, 3), BAD);
        e.refuses(Houses::busy, "swap", x -> x.swap(3, 0), BAD);
        e.refuses(Houses::busy, "tunnel", x -> x.tunnel(10, 4, 4), BAD);
        e.refuses(Houses::busy, "tunnel", x -> x.tunnel(10, 5, 3), BAD);
    }

    private void findingsChangeCountSixAlone() {
        e.sentence("Terms", "(FINDINGS but count() 6)");
        LinenTunnel x = Houses.after(Houses::busy);
        e.is("before any", x.count(6), 0);
        x.put(0, 0, 5, 1);
        e.is("INDEX", x.count(6), 2);
        x.put(0, 0, 4, 1);
        e.is("a good call leaves it", x.count(6), 2);
        x.put(4, 0, 4, 1);
        e.is("BAD leaves it", x.count(6), 2);
        x.again(10);
        e.is("NOT leaves it", x.count(6), 2);
        x.get(0, 3, 0);
        e.is("BAD of get() leaves it", x.count(6), 2);
        x.get(3, 2, 0);
        e.is("NULL of get()", x.count(6), 1);
        LinenTunnel y = Houses.after(Houses.waiting(12));
        y.sheet(0, 0, -1);
        y.batch(0, -1, 1);
        e.is("FULL leaves it", y.count(6), 5);
    }
}
