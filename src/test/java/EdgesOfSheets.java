import java.math.BigInteger;
import java.util.ArrayList;
import java.util.List;
import java.util.function.Consumer;

/** The sentences of promises 24 to 32 that name a boundary. */
final class EdgesOfSheets {
    private static final int NONE = Edges.NONE, BAD = Edges.BAD, NOT = Edges.NOT;
    private static final int NULL = Edges.NULL, INDEX = Edges.INDEX, CAST = Edges.CAST;
    private static final int STORE = Edges.STORE, SIZE = Edges.SIZE;
    private static final int LEAST = Edges.LEAST, GREATEST = Edges.GREATEST;

    private final Edges e;

    EdgesOfSheets(Edges edges) {
        e = edges;
    }

    void all() {
        packGoesOut();
        packMissing();
        packBad();
        sheetIsNew();
        sheetBad();
        sheetSize();
        loseTellsItems();
        loseBad();
        loseNull();
        putItems();
        putLowestBits();
        putBad();
        putNull();
        putCast();
        putIndex();
        getItems();
        getBad();
        getFindings();
        copyItems();
        copyOnItself();
        copyFromJOn();
        copyBad();
        copyNull();
        copyStore();
        copyIndex();
        listNumbers();
        listAsManyAsThereIsRoom();
        listBad();
        listNull();
        countAll();
        countFindings();
        countBad();
        digestBegins();
        digestOfAll();
        digestWraps();
    }

    // ---- 24: pack

    private void packGoesOut() {
        e.sentence("Promise 24", "n CLEAN PIECES (1 to 40) of an OWNER and KIND, by numbers, go OUT: n");
        for (int n = 1; n <= 40; n++) {
            LinenTunnel x = Houses.after(Houses.clean(41));
            e.is("of 41", x.pack(0, 0, n), n);
            e.is("the last of them: place", x.about(n - 1, 3), 0);
            e.is("the next one: place", x.about(n, 3), 3);
            e.is("left", x.pieces(0, 0, 3), 41 - n);
            e.is("their washes stay", x.about(0, 4), 1);
        }
        LinenTunnel y = Houses.after(Houses::busy);
        e.is("of kind 0, of owner 3: piece 3, not 9, which is LOST", y.pack(3, 0, 1), 1);
        e.is("of kind 1, of owner 4: piece 4", y.pack(4, 1, 1), 1);
        e.places("then", y, 2, 3, 3, 0, 0, 2, 3, 2, 2, 4, 1, 1, 0, 0, 0, 0, 0, 4);
        LinenTunnel z = Houses.after(Houses.clean(40));
        e.is("all forty of forty", z.pack(0, 0, 40), 40);
    }

    private void packMissing() {
        e.sentence("Promise 24", "-100 less how many are missing (none goes)");
        for (int there : new int[] {0, 1, 39}) {
            for (int n = there + 1; n <= 40; n++) {
                int asked = n;
                e.refuses(Houses.clean(there), n + " of " + there, x -> x.pack(0, 0, asked), -100 - (n - there));
            }
        }
        e.refuses(Houses::busy, "of an owner who has none", x -> x.pack(5, 0, 1), -101);
        e.refuses(Houses::busy, "of a kind of which he has none", x -> x.pack(3, 1, 40), -140);
        e.refuses(Houses::busy, "one of two is in a BATCH", x -> x.pack(0, 0, 2), -101);
        e.refuses(Houses::busy, "one of two is LOST", x -> x.pack(3, 0, 2), -101);
        LinenTunnel y = Houses.after(Houses.clean(2));
        y.pack(0, 0, 2);
        e.is("those that went are missing", y.pack(0, 0, 2), -102);
    }

    private void packBad() {
        e.sentence("Promise 24", "BAD");
        e.noneIsGood(Houses::empty, "kind where there is none", (x, v) -> x.pack(0, v, 1), BAD);
        e.range(Houses::busy, "owner", 0, 5, (x, v) -> x.pack(v, 0, 1), v -> v == 0 || v == 3 ? 1 : -101);
        e.range(Houses::busy, "kind of three", 0, 2, (x, v) -> x.pack(4, v, 1), v -> v == 1 ? 1 : -101);
        e.range(Houses.kinds(8), "kind of eight", 0, 7, (x, v) -> x.pack(4, v, 1), v -> -101);
        e.range(Houses.clean(41), "n", 1, 40, (x, v) -> x.pack(0, 0, v), v -> v);
        e.refuses(Houses.clean(3), "any owner", x -> x.pack(-1, 0, 1), BAD);
        e.refuses(Houses.clean(3), "any kind", x -> x.pack(0, -1, 1), BAD);
    }

    // ---- 25: sheet

    private void sheetIsNew() {
        e.sentence("Promise 25", "A SHEET is a new row of a FORM with n items: n.");
        for (int form = 0; form <= 2; form++) {
            for (int n : new int[] {0, 1, 5, 59, 60}) {
                LinenTunnel x = Houses.after(Houses::busy);
                e.is("in place of five bytes", x.sheet(0, form, n), n);
                int first = n == 0 ? LEAST : 0;
                e.is("its first item", x.get(0, form, 0), first);
                e.is("its last item", x.get(0, form, n - 1), first);
                e.is("behind its last", x.put(0, form, n, 1), INDEX);
                e.is("as of another form", x.put(0, (form + 1) % 3, 0, 1), CAST);
                e.is("the next sheet stays", x.get(1, 1, 0), 77);
                e.is("the next sheet stays", x.get(1, 1, 59), -1000);
                e.is("how many it had", x.lose(0), n);
            }
        }
        LinenTunnel y = Houses.after(Houses.rising(2, 60));
        y.sheet(0, 2, 1);
        y.sheet(0, 2, 60);
        e.is("shorter and longer again: its last item", y.get(0, 2, 59), 0);
        y.put(0, 2, 59, 1);
        y.lose(0);
        y.sheet(0, 2, 60);
        e.is("lost and new again: its last item", y.get(0, 2, 59), 0);
    }

    private void sheetBad() {
        e.sentence("Promise 25", "BAD: SHEET, FORM, above 60");
        e.range(Houses::busy, "sheet", 0, 3, (x, v) -> x.sheet(v, 1, 4), v -> 4);
        e.range(Houses::busy, "form", 0, 2, (x, v) -> x.sheet(1, v, 4), v -> 4);
        for (int n = 0; n <= 60; n++) {
            e.is("of 0 to 60", Houses.after(Houses::busy).sheet(2, 0, n), n);
        }
        for (int n : new int[] {61, 62, 100, GREATEST}) {
            e.refuses(Houses::busy, "of " + n, x -> x.sheet(2, 0, n), BAD);
            e.refuses(Houses::busy, "a LOST one of " + n, x -> x.sheet(3, 0, n), BAD);
        }
    }

    private void sheetSize() {
        e.sentence("Promise 25", "SIZE");
        for (int n : new int[] {-1, -2, LEAST + 1, LEAST}) {
            e.refuses(Houses::busy, "of " + n, x -> x.sheet(2, 0, n), SIZE);
            e.refuses(Houses::busy, "a LOST one of " + n, x -> x.sheet(3, 2, n), SIZE);
        }
        e.refuses(Houses::busy, "-1, and no such sheet", x -> x.sheet(4, 0, -1), BAD);
        e.refuses(Houses::busy, "-1, and no such form", x -> x.sheet(0, -1, -1), BAD);
    }

    // ---- 26: lose

    private void loseTellsItems() {
        e.sentence("Promise 26", "It is LOST: how many items it had.");
        for (int n = 0; n <= 60; n++) {
            LinenTunnel x = Houses.after(Houses.rising(1, n));
            e.is("of " + n, x.lose(0), n);
            e.is("then it's LOST", x.lose(0), NULL);
            e.is("then it's LOST", x.put(0, 1, 0, 1), NULL);
        }
        LinenTunnel y = Houses.after(Houses::busy);
        e.is("one of three", y.lose(1), 60);
        e.is("the last item of the one ahead stays", y.get(0, 0, 4), 16);
        e.is("the first item of the one behind stays", y.get(2, 2, 0), 1000000);
    }

    private void loseBad() {
        e.sentence("Promise 26", "BAD");
        e.range(Houses::busy, "sheet", 0, 3, (x, v) -> x.lose(v), v -> new int[] {5, 60, 7, NULL}[v]);
    }

    private void loseNull() {
        e.sentence("Promise 26", "NULL");
        e.refuses(Houses::busy, "one that never was", x -> x.lose(3), NULL);
        Consumer<LinenTunnel> without = x -> {
            Houses.busy(x);
            x.lose(0);
        };
        e.refuses(without, "one that was there", x -> x.lose(0), NULL);
    }

    // ---- 27: put

    private void putItems() {
        e.sentence("Promise 27", "Item i, treated as of a FORM, becomes v");
        for (int form = 0; form <= 2; form++) {
            for (int i : new int[] {0, 1, 58, 59}) {
                LinenTunnel x = Houses.after(Houses.rising(form, 60));
                e.is("item " + i, x.put(0, form, i, 99), 1);
                for (int k = 0; k < 60; k++) {
                    e.is("item " + i + " is put: item " + k, x.get(0, form, k), k == i ? 99 : k + 1);
                }
            }
        }
        LinenTunnel y = new LinenTunnel();
        for (int s = 0; s <= 3; s++) {
            y.sheet(s, 2, 60);
            y.put(s, 2, 0, 100 + s);
            y.put(s, 2, 59, 200 + s);
        }
        for (int s = 0; s <= 3; s++) {
            e.is("the first of sheet " + s, y.get(s, 2, 0), 100 + s);
            e.is("the last of sheet " + s, y.get(s, 2, 59), 200 + s);
        }
    }

    private void putLowestBits() {
        e.sentence("Promise 27", "(the lowest bits that it has): 1.");
        int[] told = {0, 1, -1, 127, 128, 129, 255, 256, 257, -127, -128, -129, -256, 32767, 32768, 65535, 65536, -32768, -32769, 0x12345678, LEAST, LEAST + 1, GREATEST - 1, GREATEST};
        for (int v : told) {
            for (int form = 0; form <= 2; form++) {
                LinenTunnel x = Houses.after(Houses.rising(form, 1));
                e.is("of " + v, x.put(0, form, 0, v), 1);
                int bits = form == 0 ? 8 : form == 1 ? 16 : 32;
                e.is(bits + " bits of " + v, x.get(0, form, 0), v << 32 - bits >> 32 - bits);
                e.is("no finding", x.count(6), 0);
            }
        }
    }

    private void putBad() {
        e.sentence("Promise 27", "BAD");
        e.range(Houses::busy, "sheet", 0, 3, (x, v) -> x.put(v, 0, 0, 9), v -> new int[] {1, CAST, CAST, NULL}[v]);
        e.range(Houses::busy, "form", 0, 2, (x, v) -> x.put(2, v, 0, 9), v -> v == 2 ? 1 : CAST);
        e.range(Houses::busy, "form of a LOST one", 0, 2, (x, v) -> x.put(3, v, 0, 9), v -> NULL);
        e.range(Houses::busy, "form, and no such item", 0, 2, (x, v) -> x.put(2, v, 7, 9), v -> v == 2 ? INDEX : CAST);
    }

    private void putNull() {
        e.sentence("Promise 27", "NULL");
        for (int form = 0; form <= 2; form++) {
            int of = form;
            e.refuses(Houses::busy, "as of form " + form, x -> x.put(3, of, 0, 9), NULL);
            e.refuses(Houses::busy, "as of form " + form + ", no such item", x -> x.put(3, of, 60, 9), NULL);
        }
    }

    private void putCast() {
        e.sentence("Promise 27", "CAST");
        e.refuses(Houses::busy, "bytes as shorts", x -> x.put(0, 1, 0, 9), CAST);
        e.refuses(Houses::busy, "bytes as ints", x -> x.put(0, 2, 0, 9), CAST);
        e.refuses(Houses::busy, "shorts as bytes", x -> x.put(1, 0, 0, 9), CAST);
        e.refuses(Houses::busy, "ints as shorts, no such item", x -> x.put(2, 1, -1, 9), CAST);
        e.refuses(Houses.rising(2, 0), "none of ints as bytes", x -> x.put(0, 0, 0, 9), CAST);
    }

    private void putIndex() {
        e.sentence("Promise 27", "INDEX");
        for (int n : new int[] {1, 5, 59, 60}) {
            e.range(Houses.rising(1, n), "item of " + n, 0, n - 1, (x, v) -> x.put(0, 1, v, 9), v -> 1, INDEX);
        }
        e.noneIsGood(Houses.rising(1, 0), "item of none", (x, v) -> x.put(0, 1, v, 9), INDEX);
    }

    // ---- 28: get

    private void getItems() {
        e.sentence("Promise 28", "Item i of it.");
        for (int form = 0; form <= 2; form++) {
            int of = form;
            for (int i : new int[] {0, 1, 58, 59}) {
                e.tells(Houses.rising(form, 60), "item " + i, x -> x.get(0, of, i), i + 1);
            }
        }
        Consumer<LinenTunnel> least = Houses.rising(2, 1).andThen(x -> x.put(0, 2, 0, LEAST));
        e.tells(least, "an item that is the least int is no finding", x -> x.get(0, 2, 0), LEAST);
        e.is("count() 6", Houses.after(least.andThen(x -> x.get(0, 2, 0))).count(6), 0);
    }

    private void getBad() {
        e.sentence("Promise 28", "BAD: the least int");
        for (int v : new int[] {-1, 4, LEAST, GREATEST}) {
            e.refuses(Houses::busy, "sheet " + v, x -> x.get(v, 0, 0), LEAST, 0);
            e.refuses(Houses::busy, "sheet " + v + ", no such item", x -> x.get(v, 0, 60), LEAST, 0);
        }
        for (int v : new int[] {-1, 3, LEAST, GREATEST}) {
            e.refuses(Houses::busy, "form " + v, x -> x.get(0, v, 0), LEAST, 0);
            e.refuses(Houses::busy, "form " + v + " of a LOST one", x -> x.get(3, v, 0), LEAST, 0);
            e.refuses(Houses::busy, "form " + v + ", no such item", x -> x.get(0, v, 5), LEAST, 0);
        }
        LinenTunnel x = Houses.after(Houses::busy);
        e.is("the last sheet that is there", x.get(2, 2, 6), -7);
        e.is("the first", x.get(0, 0, 0), 12);
    }

    private void getFindings() {
        e.sentence("Promise 28", "so are NULL, CAST, INDEX (count() 6 tells)");
        e.refuses(Houses::busy, "NULL", x -> x.get(3, 0, 0), LEAST, 1);
        e.refuses(Houses::busy, "NULL, INDEX", x -> x.get(3, 2, GREATEST), LEAST, 1);
        e.refuses(Houses::busy, "CAST", x -> x.get(0, 1, 0), LEAST, 3);
        e.refuses(Houses::busy, "CAST, INDEX", x -> x.get(1, 2, 60), LEAST, 3);
        for (int i : new int[] {-1, 5, 59, 60, LEAST, GREATEST}) {
            e.refuses(Houses::busy, "INDEX " + i + " of 5", x -> x.get(0, 0, i), LEAST, 2);
        }
        for (int i : new int[] {-1, 60, LEAST, GREATEST}) {
            e.refuses(Houses::busy, "INDEX " + i + " of 60", x -> x.get(1, 1, i), LEAST, 2);
        }
        e.refuses(Houses.rising(0, 0), "INDEX 0 of none", x -> x.get(0, 0, 0), LEAST, 2);
        LinenTunnel y = Houses.after(Houses::busy);
        y.get(3, 0, 0);
        e.is("a good one", y.get(0, 0, 4), 16);
        e.is("a good one leaves count() 6", y.count(6), 1);
    }

    // ---- 29: copy

    private void copyItems() {
        e.sentence("Promise 29", "n items of SHEET s, from i on, come to SHEET t");
        for (int form = 0; form <= 2; form++) {
            for (int n = 0; n <= 8; n++) {
                LinenTunnel x = Houses.after(Houses.rising(form, 8));
                x.sheet(3, form, 8);
                e.is(n + " of 8", x.copy(0, 8 - n, 3, 0, n), 1);
                for (int k = 0; k < 8; k++) {
                    e.is(n + " of 8: item " + k, x.get(3, form, k), k < n ? 8 - n + k + 1 : 0);
                    e.is(n + " of 8: item " + k + " of s", x.get(0, form, k), k + 1);
                }
            }
        }
        LinenTunnel y = Houses.after(Houses.rising(2, 60));
        y.sheet(1, 2, 60);
        e.is("all sixty", y.copy(0, 0, 1, 0, 60), 1);
        e.is("all sixty: the first", y.get(1, 2, 0), 1);
        e.is("all sixty: the last", y.get(1, 2, 59), 60);
        LinenTunnel z = Houses.after(Houses.rising(0, 2));
        z.put(0, 0, 0, -128);
        z.sheet(1, 0, 2);
        z.copy(0, 0, 1, 1, 1);
        e.items("a negative byte", z, 1, 0, 0, -128);
    }

    private void copyOnItself() {
        e.sentence("Promise 29", "(perhaps s, as they were)");
        for (int form = 0; form <= 2; form++) {
            for (int i = 0; i <= 8; i++) {
                for (int j = 0; j <= 8; j++) {
                    LinenTunnel x = Houses.after(Houses.rising(form, 8));
                    int n = 8 - Math.max(i, j);
                    e.is("from " + i + " to " + j, x.copy(0, i, 0, j, n), 1);
                    for (int k = 0; k < 8; k++) {
                        boolean came = k >= j && k < j + n;
                        e.is("from " + i + " to " + j + ": item " + k, x.get(0, form, k), came ? k - j + i + 1 : k + 1);
                    }
                }
            }
        }
    }

    private void copyFromJOn() {
        e.sentence("Promise 29", ", from j on: 1.");
        for (int j = 0; j <= 6; j++) {
            LinenTunnel x = Houses.after(Houses.rising(1, 3));
            x.sheet(1, 1, 8);
            e.is("to " + j, x.copy(0, 1, 1, j, 2), 1);
            for (int k = 0; k < 8; k++) {
                e.is("to " + j + ": item " + k, x.get(1, 1, k), k == j ? 2 : k == j + 1 ? 3 : 0);
            }
        }
    }

    private void copyBad() {
        e.sentence("Promise 29", "BAD: the SHEETS");
        e.range(Houses::busy, "s", 0, 3, (x, v) -> x.copy(v, 0, 2, 0, 1), v -> new int[] {STORE, STORE, 1, NULL}[v]);
        e.range(Houses::busy, "t", 0, 3, (x, v) -> x.copy(0, 0, v, 0, 1), v -> new int[] {1, STORE, STORE, NULL}[v]);
        e.range(Houses::busy, "t, and s is LOST", 0, 3, (x, v) -> x.copy(3, 0, v, 0, 1), v -> NULL);
        e.range(Houses::busy, "s, and t is LOST", 0, 3, (x, v) -> x.copy(v, 0, 3, 0, 1), v -> NULL);
        e.range(Houses::busy, "both", 0, 3, (x, v) -> x.copy(v, 0, v, 0, 5), v -> v == 3 ? NULL : 1);
    }

    private void copyNull() {
        e.sentence("Promise 29", "NULL: s, t");
        e.refuses(Houses::busy, "s", x -> x.copy(3, 0, 0, 0, 1), NULL);
        e.refuses(Houses::busy, "t", x -> x.copy(0, 0, 3, 0, 1), NULL);
        e.refuses(Houses::busy, "both", x -> x.copy(3, 0, 3, 0, 0), NULL);
        e.refuses(Houses::busy, "s, and INDEX", x -> x.copy(3, -1, 0, 0, 1), NULL);
        e.refuses(Houses::busy, "t, and INDEX", x -> x.copy(0, 0, 3, 0, 6), NULL);
        e.refuses(Houses::empty, "none is there", x -> x.copy(0, 0, 1, 0, 0), NULL);
    }

    private void copyStore() {
        e.sentence("Promise 29", "STORE");
        for (int s = 0; s <= 2; s++) {
            for (int t = 0; t <= 2; t++) {
                int from = s;
                int to = t;
                if (s != t) {
                    e.refuses(Houses::busy, s + " to " + t, x -> x.copy(from, 0, to, 0, 5), STORE);
                    e.refuses(Houses::busy, s + " to " + t + ", and INDEX", x -> x.copy(from, 0, to, 0, 61), STORE);
                    e.refuses(Houses::busy, s + " to " + t + ", and below 0", x -> x.copy(from, -1, to, 0, 0), STORE);
                }
            }
        }
    }

    private void copyIndex() {
        e.sentence("Promise 29", "INDEX: below 0, not so many");
        Consumer<LinenTunnel> six = Houses.rising(2, 6).andThen(x -> x.sheet(1, 2, 6));
        e.range(six, "i with two", 0, 4, (x, v) -> x.copy(0, v, 1, 0, 2), v -> 1, INDEX);
        e.range(six, "j with two", 0, 4, (x, v) -> x.copy(0, 0, 1, v, 2), v -> 1, INDEX);
        e.range(six, "i with none", 0, 6, (x, v) -> x.copy(0, v, 1, 0, 0), v -> 1, INDEX);
        e.range(six, "j with none", 0, 6, (x, v) -> x.copy(0, 0, 1, v, 0), v -> 1, INDEX);
        e.range(six, "n from 0 to 0", 0, 6, (x, v) -> x.copy(0, 0, 1, 0, v), v -> 1, INDEX);
        e.range(six, "n from 4 to 0", 0, 2, (x, v) -> x.copy(0, 4, 1, 0, v), v -> 1, INDEX);
        e.range(six, "n from 0 to 4", 0, 2, (x, v) -> x.copy(0, 0, 1, 4, v), v -> 1, INDEX);
        e.range(six, "n from 6 to 6", 0, 0, (x, v) -> x.copy(0, 6, 1, 6, v), v -> 1, INDEX);
        e.range(six, "n on itself", 0, 5, (x, v) -> x.copy(0, 1, 0, 0, v), v -> 1, INDEX);
        Consumer<LinenTunnel> shorter = Houses.rising(2, 6).andThen(x -> x.sheet(1, 2, 3));
        e.range(shorter, "n to a shorter one", 0, 3, (x, v) -> x.copy(0, 0, 1, 0, v), v -> 1, INDEX);
        e.range(shorter, "n from a shorter one", 0, 3, (x, v) -> x.copy(1, 0, 0, 0, v), v -> 1, INDEX);
        Consumer<LinenTunnel> none = Houses.rising(0, 0).andThen(x -> x.sheet(1, 0, 60));
        e.range(none, "n from none", 0, 0, (x, v) -> x.copy(0, 0, 1, 0, v), v -> 1, INDEX);
        e.range(none, "n to none", 0, 0, (x, v) -> x.copy(1, 60, 0, 0, v), v -> 1, INDEX);
        int[][] farOff = {{1, 0, GREATEST}, {0, 1, GREATEST}, {GREATEST, GREATEST, GREATEST}, {GREATEST, 0, 1}, {0, GREATEST, 1},
            {LEAST, LEAST, LEAST}, {1, 1, LEAST}, {GREATEST, 0, LEAST}, {LEAST, 0, GREATEST}, {-1, -1, -1}, {6, 6, -1}, {GREATEST, 0, 7}};
        for (int[] far : farOff) {
            e.refuses(six, far[0] + ", " + far[1] + ", " + far[2], x -> x.copy(0, far[0], 1, far[1], far[2]), INDEX);
        }
    }

    // ---- 30: list

    private void listNumbers() {
        e.sentence("Promise 30", "Numbers of PIECES of an OWNER (-1: any) at a PLACE, rising, are written to a SHEET from item 0 on,");
        int[][] places = {{12, 13, 14, 15, 16}, {10, 11}, {0, 5, 7, 8}, {1, 2, 3, 4, 6}, {9, 17}};
        for (int place = 0; place <= 4; place++) {
            LinenTunnel x = Houses.after(Houses::busy);
            e.is("any at " + place, x.list(1, -1, place), places[place].length);
            e.items("any at " + place, x, 1, 1, places[place]);
            e.is("behind them it stays", x.get(1, 1, 58), -2000);
            e.is("behind them it stays", x.get(1, 1, places[place].length), 0);
        }
        for (int owner = 0; owner <= 5; owner++) {
            LinenTunnel x = Houses.after(Houses.pieces(100));
            x.sheet(2, 0, 60);
            int many = owner < 4 ? 17 : 16;
            e.is("of owner " + owner, x.list(2, owner, 0), many);
            e.is("of owner " + owner + ": the first", x.get(2, 0, 0), owner);
            e.is("of owner " + owner + ": the last", x.get(2, 0, many - 1), owner + 6 * (many - 1));
            e.is("of owner " + owner + ": behind them", x.get(2, 0, many), 0);
        }
    }

    private void listAsManyAsThereIsRoom() {
        e.sentence("Promise 30", "as many as it has items for: how many.");
        for (int n = 0; n <= 60; n++) {
            LinenTunnel x = Houses.after(Houses.pieces(30).andThen(Houses.rising(0, n)));
            int many = Math.min(30, n);
            e.is("thirty, and items for " + n, x.list(0, -1, 0), many);
            e.is("the last item that is written", n == 0 ? -1 : x.get(0, 0, many - 1), many - 1);
            e.is("the next one stays", x.get(0, 0, many), n > 30 ? 31 : LEAST);
            e.is("it has as many as before", x.lose(0), n);
        }
        LinenTunnel y = Houses.after(Houses.pieces(100).andThen(Houses.rising(0, 60)));
        e.is("a hundred, and items for sixty", y.list(0, -1, 0), 60);
        e.is("the last of sixty", y.get(0, 0, 59), 59);
        LinenTunnel z = Houses.after(Houses.rising(0, 60));
        e.is("none there", z.list(0, -1, 0), 0);
        e.is("none is written", z.get(0, 0, 0), 1);
    }

    private void listBad() {
        e.sentence("Promise 30", "BAD");
        e.range(Houses::busy, "sheet", 0, 3, (x, v) -> x.list(v, -1, 0), v -> v == 3 ? NULL : 5);
        e.range(Houses::busy, "owner", -1, 5, (x, v) -> x.list(1, v, 2), v -> new int[] {4, 1, 1, 1, 0, 0, 1}[v + 1]);
        e.range(Houses::busy, "place", 0, 4, (x, v) -> x.list(1, -1, v), v -> new int[] {5, 2, 4, 5, 2}[v]);
        e.range(Houses::busy, "owner, and it is LOST", -1, 5, (x, v) -> x.list(3, v, 2), v -> NULL);
        e.range(Houses::busy, "place, and it is LOST", 0, 4, (x, v) -> x.list(3, -1, v), v -> NULL);
    }

    private void listNull() {
        e.sentence("Promise 30", "NULL");
        e.refuses(Houses::busy, "one that never was", x -> x.list(3, -1, 0), NULL);
        e.refuses(Houses::empty, "none is there", x -> x.list(0, 0, 4), NULL);
    }

    // ---- 31: count

    private void countAll() {
        e.sentence("Promise 31", "0 KINDS, 1 PIECES, 2 BATCHES that wait, 3 C, 4 D, 5 I,");
        e.sentence("Promise 31", "7 WASHES of THE TUNNEL so far.");
        int[] busy = {3, 18, 3, 3, 2, 2, 0, 1};
        int[] full = {8, 100, 12, 4, 2, 1, 0, 0};
        for (int what = 0; what <= 7; what++) {
            int asked = what;
            e.tells(Houses::busy, "busy: count(" + what + ")", x -> x.count(asked), busy[what]);
            e.tells(Houses::full, "full: count(" + what + ")", x -> x.count(asked), full[what]);
        }
        LinenTunnel y = Houses.after(Houses.soiled(1));
        for (int wash = 1; wash <= 100; wash++) {
            y.batch(0, -1, 1);
            y.wash();
            e.is("washes", y.count(7), wash);
            e.is("a wash of nothing is none", y.wash(), NOT);
            y.again(0);
        }
        e.is("washes", y.count(7), 100);
    }

    private void countFindings() {
        e.sentence("Promise 31", "6 the number of the latest FINDING (0 before any),");
        LinenTunnel x = Houses.after(Houses::busy);
        e.is("before any", x.count(6), 0);
        int[] findings = {5, 4, 3, 2, 1, 2, 3, 4, 5, 1};
        for (int finding : findings) {
            e.is("the finding", found(x, finding), -10 - finding);
            e.is("the latest one", x.count(6), finding);
        }
        x.lose(0);
        e.is("a good call leaves it", x.count(6), 1);
    }

    private static int found(LinenTunnel x, int finding) {
        switch (finding) {
            case 1: return x.lose(3);
            case 2: return x.put(0, 0, 5, 1);
            case 3: return x.put(0, 1, 0, 1);
            case 4: return x.copy(0, 0, 1, 0, 1);
            default: return x.sheet(0, 0, -1);
        }
    }

    private void countBad() {
        e.sentence("Promise 31", "BAD");
        e.range(Houses::busy, "what", 0, 7, (x, v) -> x.count(v), v -> new int[] {3, 18, 3, 3, 2, 2, 0, 1}[v]);
        e.range(Houses::empty, "what at first", 0, 7, (x, v) -> x.count(v), v -> new int[] {0, 0, 0, 4, 2, 1, 0, 0}[v]);
    }

    // ---- 32: digest

    private void digestBegins() {
        e.sentence("Promise 32", "h is 17; h becomes 31 h and each of:");
        e.tells(Houses::empty, "of a new one", x -> x.digest(), wrapped(0, 0, 0, 4, 2, 1, 0, 0, 0, 0, 0, 0, 0, 0));
        e.tells(x -> x.tunnel(10, 4, 3), "of another tunnel", x -> x.digest(), wrapped(0, 0, 0, 10, 4, 3, 0, 0, 0, 0, 0, 0, 0, 0));
    }

    private void digestOfAll() {
        e.sentence("Promise 32", "count() 0 to 5, 7, of each PIECE about() 2 to 5, THE ORDER, washed() 0 to 6");
        e.tells(Houses::busy, "of a busy one", x -> x.digest(), wrapped(3, 18, 3, 3, 2, 2, 1,
            0, 2, 1, 1, 1, 3, 1, NONE, 1, 3, 1, NONE, 1, 3, 1, NONE, 0, 3, 1, NONE, 1, 2, 0, 0,
            1, 3, 1, NONE, 1, 2, 0, 2, 0, 2, 0, 0, 1, 4, 1, NONE, 1, 1, 0, NONE, 1, 1, 0, NONE,
            0, 0, 0, NONE, 1, 0, 0, NONE, 1, 0, 0, NONE, 1, 0, 0, NONE, 0, 0, 0, NONE, 1, 4, 0, NONE,
            2, 1, 0, 11, 5, 0, 190, 15, 3, 7));
        long before = Houses.after(Houses::busy).digest();
        LinenTunnel x = Houses.after(Houses::busy);
        x.sheet(0, 2, 60);
        x.lose(1);
        x.lose(1);
        e.is("sheets and findings are none of it", x.digest(), before);
        x.swap(0, 1);
        e.is("the order is", x.digest() == before ? 1 : 0, 0);
    }

    private void digestWraps() {
        e.sentence("Promise 32", "as longs that wrap");
        for (int n : new int[] {0, 1, 50, 99, 100}) {
            LinenTunnel x = Houses.after(Houses.pieces(n));
            List<Long> told = new ArrayList<>(List.of(1L, (long) n, 0L, 4L, 2L, 1L, 0L));
            for (int p = 0; p < n; p++) {
                told.addAll(List.of(1L, 0L, 0L, -1L));
            }
            told.addAll(List.of(0L, 0L, 0L, 0L, 0L, 0L, 0L));
            e.is("of " + n + " pieces", x.digest(), wrapped(told.stream().mapToLong(Long::longValue).toArray()));
        }
    }

    /** By numbers without a bound, of which the lowest 64 bits are kept at the end. */
    private static long wrapped(long... told) {
        BigInteger h = BigInteger.valueOf(17);
        for (long v : told) {
            h = h.multiply(BigInteger.valueOf(31)).add(BigInteger.valueOf(v));
        }
        return h.longValue();
    }
}
