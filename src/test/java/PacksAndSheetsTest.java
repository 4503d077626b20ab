/** Promises 24 to 32: packs, sheets, findings, counts and the digest. */
public final class PacksAndSheetsTest {
    private static final int BAD = LinenTunnel.BAD, LEAST = Integer.MIN_VALUE;
    private static final Due due = new Due("PacksAndSheetsTest");

    public static void main(String[] args) {
        constants();
        packs();
        packRefusals();
        sheets();
        loses();
        putsAndGets();
        putAndGetRefusals();
        copies();
        copyRefusals();
        lists();
        counts();
        digests();
        due.end();
    }

    private static void constants() {
        due.is("NONE", LinenTunnel.NONE, -1);
        due.is("BAD", LinenTunnel.BAD, -2);
        due.is("FULL", LinenTunnel.FULL, -3);
        due.is("NOT", LinenTunnel.NOT, -4);
    }

    private static void packs() {
        LinenTunnel x = cleanHouse();
        due.is("pack: two of owner 1", x.pack(1, 0, 2), 2);
        due.is("pack: the first is OUT", x.about(1, 3), 0);
        due.is("pack: the second is OUT", x.about(3, 3), 0);
        due.is("pack: the third is CLEAN", x.about(5, 3), 3);
        due.is("pack: of the other owner", x.about(0, 3), 3);
        due.is("pack: ten, seven are missing", x.pack(1, 0, 10), -107);
        due.is("pack: none went", x.pieces(1, 0, 3), 3);
        due.is("pack: all three", x.pack(1, 0, 3), 3);
        due.is("pack: one is missing", x.pack(1, 0, 1), -101);
        due.is("pack: forty are missing", x.pack(5, 0, 40), -140);
        due.is("pack: the washes stay", x.about(1, 4), 1);
        due.is("pack: the other kind", x.pack(0, 1, 1), -101);
        LinenTunnel y = new LinenTunnel();
        y.kind(0, 0, false, 0, 0);
        for (int p = 0; p < 45; p++) {
            y.hand(y.piece(0, 0, true));
        }
        y.batch(0, -1, 20);
        y.batch(0, -1, 20);
        y.batch(0, -1, 20);
        y.wash();
        due.is("pack: forty", y.pack(0, 0, 40), 40);
        due.is("pack: five are left", y.pieces(0, 0, 3), 5);
    }

    private static void packRefusals() {
        LinenTunnel x = cleanHouse();
        due.is("pack: owner -1", x.pack(-1, 0, 1), BAD);
        due.is("pack: owner 6", x.pack(6, 0, 1), BAD);
        due.is("pack: kind -1", x.pack(0, -1, 1), BAD);
        due.is("pack: kind 2", x.pack(0, 2, 1), BAD);
        due.is("pack: n 0", x.pack(0, 0, 0), BAD);
        due.is("pack: n 41", x.pack(0, 0, 41), BAD);
        due.is("pack: all are CLEAN yet", x.pieces(-1, -1, 3), 10);
    }

    private static void sheets() {
        LinenTunnel x = new LinenTunnel();
        due.is("sheet: 60 bytes", x.sheet(3, 0, 60), 60);
        due.is("sheet: item 59", x.get(3, 0, 59), 0);
        x.put(3, 0, 59, 7);
        due.is("sheet: SHEET -1", x.sheet(-1, 0, 1), BAD);
        due.is("sheet: SHEET 4", x.sheet(4, 0, 1), BAD);
        due.is("sheet: FORM -1", x.sheet(3, -1, 1), BAD);
        due.is("sheet: FORM 3", x.sheet(3, 3, 1), BAD);
        due.is("sheet: 61", x.sheet(3, 0, 61), BAD);
        due.is("sheet: no finding", x.count(6), 0);
        due.is("sheet: -1 and FORM 3", x.sheet(3, 3, -1), BAD);
        due.is("sheet: -1", x.sheet(3, 0, -1), -15);
        due.is("sheet: told as 5", x.count(6), 5);
        due.is("sheet: it stands as it was", x.get(3, 0, 59), 7);
        due.is("sheet: the least n", x.sheet(3, 0, LEAST), -15);
        due.is("sheet: a new row", x.sheet(3, 0, 60), 60);
        due.is("sheet: of zeros", x.get(3, 0, 59), 0);
        due.is("sheet: of another form", x.sheet(3, 2, 5), 5);
        due.is("sheet: it has the other form", x.get(3, 0, 0), LEAST);
        due.is("sheet: told as 3", x.count(6), 3);
        due.is("sheet: of no items", x.sheet(3, 1, 0), 0);
        due.is("sheet: item 0 of none", x.get(3, 1, 0), LEAST);
        due.is("sheet: told as 2", x.count(6), 2);
        due.is("sheet: the others are LOST", x.lose(2), -11);
    }

    private static void loses() {
        LinenTunnel x = new LinenTunnel();
        due.is("lose: LOST", x.lose(0), -11);
        due.is("lose: told as 1", x.count(6), 1);
        x.sheet(0, 1, 9);
        x.sheet(1, 1, 4);
        due.is("lose: nine items", x.lose(0), 9);
        due.is("lose: LOST then", x.lose(0), -11);
        due.is("lose: the other stands", x.lose(1), 4);
        due.is("lose: SHEET -1", x.lose(-1), BAD);
        due.is("lose: SHEET 4", x.lose(4), BAD);
    }

    private static void putsAndGets() {
        LinenTunnel x = new LinenTunnel();
        int[] values = {0, 1, -1, 127, 128, 255, 256, -128, -129, 32767, 32768, 65535, -32769, LEAST, Integer.MAX_VALUE};
        for (int form = 0; form < 3; form++) {
            x.sheet(form, form, values.length);
            for (int i = 0; i < values.length; i++) {
                due.is("put of form " + form, x.put(form, form, i, values[i]), 1);
            }
        }
        for (int i = 0; i < values.length; i++) {
            due.is("get: a byte of " + values[i], x.get(0, 0, i), (byte) values[i]);
            due.is("get: a short of " + values[i], x.get(1, 1, i), (short) values[i]);
            due.is("get: an int of " + values[i], x.get(2, 2, i), values[i]);
        }
        due.is("get: no finding", x.count(6), 0);
    }

    private static void putAndGetRefusals() {
        LinenTunnel x = new LinenTunnel();
        x.sheet(0, 1, 3);
        due.is("put: SHEET -1", x.put(-1, 0, 0, 0), BAD);
        due.is("put: SHEET 4", x.put(4, 0, 0, 0), BAD);
        due.is("put: FORM -1", x.put(0, -1, 0, 0), BAD);
        due.is("put: FORM 3", x.put(0, 3, 0, 0), BAD);
        due.is("get: SHEET -1", x.get(-1, 0, 0), LEAST);
        due.is("get: SHEET 4", x.get(4, 0, 0), LEAST);
        due.is("get: FORM -1", x.get(0, -1, 0), LEAST);
        due.is("get: FORM 3", x.get(0, 3, 0), LEAST);
        due.is("put, get: no finding", x.count(6), 0);
        checkFinding(x, "put: NULL", x.put(1, 1, -1, 0), -11, 1);
        checkFinding(x, "put: CAST", x.put(0, 2, 3, 0), -13, 3);
        checkFinding(x, "put: INDEX 3", x.put(0, 1, 3, 0), -12, 2);
        checkFinding(x, "get: NULL", x.get(1, 1, -1), LEAST, 1);
        checkFinding(x, "get: CAST", x.get(0, 0, 3), LEAST, 3);
        checkFinding(x, "get: INDEX 3", x.get(0, 1, 3), LEAST, 2);
        checkFinding(x, "get: CAST", x.get(0, 2, 0), LEAST, 3);
        checkFinding(x, "put: INDEX -1", x.put(0, 1, -1, 0), -12, 2);
        checkFinding(x, "put: CAST", x.put(0, 0, 0, 5), -13, 3);
        checkFinding(x, "get: INDEX -1", x.get(0, 1, -1), LEAST, 2);
        due.is("put: nothing came", x.get(0, 1, 0), 0);
        due.is("get: BAD leaves count(6)", x.get(4, 1, 0), LEAST);
        due.is("get: the finding stays", x.count(6), 2);
    }

    private static void copies() {
        LinenTunnel x = rows();
        due.is("copy: to another", x.copy(0, 1, 1, 2, 3), 1);
        checkItems("copy: to another", x, 1, 0, 0, 2, 3, 4, 0);
        checkItems("copy: the first stays", x, 0, 1, 2, 3, 4, 5, 6);
        due.is("copy: on itself, forward", x.copy(0, 0, 0, 2, 4), 1);
        checkItems("copy: on itself, forward", x, 0, 1, 2, 1, 2, 3, 4);
        LinenTunnel y = rows();
        due.is("copy: on itself, back", y.copy(0, 2, 0, 0, 4), 1);
        checkItems("copy: on itself, back", y, 0, 3, 4, 5, 6, 5, 6);
        due.is("copy: on itself, all", y.copy(0, 0, 0, 0, 6), 1);
        checkItems("copy: on itself, all", y, 0, 3, 4, 5, 6, 5, 6);
        due.is("copy: none, at the end", y.copy(0, 6, 1, 6, 0), 1);
        checkItems("copy: none", y, 1, 0, 0, 0, 0, 0, 0);
        due.is("copy: backward over another", y.copy(0, 5, 1, 0, 1), 1);
        checkItems("copy: one", y, 1, 6, 0, 0, 0, 0, 0);
        due.is("copy: no finding", y.count(6), 0);
        LinenTunnel z = new LinenTunnel();
        z.sheet(0, 0, 2);
        z.sheet(1, 0, 2);
        z.put(0, 0, 0, -100);
        z.copy(0, 0, 1, 1, 1);
        due.is("copy: of bytes", z.get(1, 0, 1), -100);
    }

    private static void copyRefusals() {
        LinenTunnel x = rows();
        x.sheet(3, 1, 6);
        due.is("copy: s -1", x.copy(-1, 0, 0, 0, 1), BAD);
        due.is("copy: s 4", x.copy(4, 0, 0, 0, 1), BAD);
        due.is("copy: t -1", x.copy(0, 0, -1, 0, 1), BAD);
        due.is("copy: t 4", x.copy(2, 0, 4, 0, 1), BAD);
        due.is("copy: no finding", x.count(6), 0);
        checkFinding(x, "copy: s is LOST", x.copy(2, -1, 3, 0, 1), -11, 1);
        checkFinding(x, "copy: STORE", x.copy(0, -1, 3, 0, 1), -14, 4);
        checkFinding(x, "copy: t is LOST", x.copy(3, -1, 2, 0, 1), -11, 1);
        checkFinding(x, "copy: i -1", x.copy(0, -1, 1, 0, 1), -12, 2);
        int top = Integer.MAX_VALUE;
        int[][] wrong = {
            {0, -1, 1}, {0, 0, -1}, {6, 0, 1}, {0, 6, 1}, {3, 0, 4}, {0, 3, 4}, {7, 0, 0}, {0, 7, 0},
            {top, 0, 1}, {0, top, 1}, {1, 0, top}, {0, 1, top}, {top, top, top}, {LEAST, 0, 1}, {0, LEAST, 1},
            {0, 0, LEAST}, {-1, 0, 0}, {0, -1, 0}, {1, 1, LEAST},
        };
        for (int[] w : wrong) {
            String call = "copy(0, " + w[0] + ", 1, " + w[1] + ", " + w[2] + ")";
            due.is(call, x.copy(0, w[0], 1, w[1], w[2]), -12);
        }
        checkItems("copy: nothing came", x, 1, 0, 0, 0, 0, 0, 0);
        due.is("copy: five of a longer one to a shorter one", x.sheet(1, 2, 5), 5);
        due.is("copy: six are too many", x.copy(0, 0, 1, 0, 6), -12);
        due.is("copy: six are too few", x.copy(1, 0, 0, 0, 6), -12);
        due.is("copy: five", x.copy(0, 0, 1, 0, 5), 1);
    }

    private static void lists() {
        LinenTunnel x = cleanHouse();
        x.sheet(0, 2, 8);
        for (int i = 0; i < 8; i++) {
            x.put(0, 2, i, 77);
        }
        due.is("list: owner 1", x.list(0, 1, 3), 5);
        checkItems("list: owner 1", x, 0, 1, 3, 5, 7, 9, 77, 77, 77);
        due.is("list: any, as many as it has items for", x.list(0, -1, 3), 8);
        checkItems("list: any", x, 0, 0, 1, 2, 3, 4, 5, 6, 7);
        due.is("list: none", x.list(0, -1, 0), 0);
        checkItems("list: nothing is written", x, 0, 0, 1, 2, 3, 4, 5, 6, 7);
        x.sheet(1, 0, 0);
        due.is("list: no items", x.list(1, -1, 3), 0);
        due.is("list: SHEET -1", x.list(-1, -1, 3), BAD);
        due.is("list: SHEET 4", x.list(4, -1, 3), BAD);
        due.is("list: owner -2", x.list(0, -2, 3), BAD);
        due.is("list: owner 6", x.list(0, 6, 3), BAD);
        due.is("list: place -1", x.list(0, -1, -1), BAD);
        due.is("list: place 5", x.list(0, -1, 5), BAD);
        due.is("list: BAD is ahead of NULL", x.list(2, -1, 5), BAD);
        due.is("list: no finding", x.count(6), 0);
        checkFinding(x, "list: NULL", x.list(2, -1, 3), -11, 1);
    }

    private static void counts() {
        LinenTunnel x = cleanHouse();
        x.hand(x.piece(0, 0, true));
        x.batch(0, -1, 1);
        x.tunnel(5, 3, 2);
        int[] want = {2, 11, 1, 5, 3, 2, 0, 1};
        for (int what = 0; what < want.length; what++) {
            due.is("count(" + what + ")", x.count(what), want[what]);
        }
        due.is("count(-1)", x.count(-1), BAD);
        due.is("count(8)", x.count(8), BAD);
    }

    private static void digests() {
        LinenTunnel x = new LinenTunnel();
        due.is("digest: new", x.digest(), digestOf(0, 0, 0, 4, 2, 1, 0, 0, 0, 0, 0, 0, 0, 0));
        x.kind(0, 0, false, 1, 1);
        x.kind(0, 2, false, 0, 0);
        x.piece(1, 5, true);
        x.piece(0, 4, false);
        x.hand(0);
        x.hand(1);
        x.batch(0, -1, 1);
        x.batch(1, -1, 1);
        x.swap(0, 1);
        due.is("digest: two batches", x.digest(), digestOf(2, 2, 2, 4, 2, 1, 0,
            1, 2, 0, 1, 0, 2, 0, 0, 1, 0, 0, 0, 0, 0, 0, 0, 0));
        x.wash();
        x.lost(0);
        x.lose(0);
        due.is("digest: a wash", x.digest(), digestOf(2, 2, 0, 4, 2, 1, 1,
            1, 4, 1, -1, 0, 3, 1, -1, 8, 2, 0, 80, 10, 2, 2));
    }

    private static long digestOf(long... told) {
        long h = 17;
        for (long v : told) {
            h = 31 * h + v;
        }
        return h;
    }

    /** Ten clean pieces of kind 0, of owners 0 and 1 in turn. */
    private static LinenTunnel cleanHouse() {
        LinenTunnel x = new LinenTunnel();
        x.kind(0, 0, false, 0, 0);
        x.kind(0, 0, false, 0, 0);
        for (int p = 0; p < 10; p++) {
            x.hand(x.piece(0, p % 2, true));
        }
        x.batch(0, -1, 20);
        x.wash();
        return x;
    }

    /** Sheet 0 has the ints 1 to 6, sheet 1 six zeros. */
    private static LinenTunnel rows() {
        LinenTunnel x = new LinenTunnel();
        x.sheet(0, 2, 6);
        x.sheet(1, 2, 6);
        for (int i = 0; i < 6; i++) {
            x.put(0, 2, i, i + 1);
        }
        return x;
    }

    private static void checkItems(String call, LinenTunnel x, int s, int... want) {
        for (int i = 0; i < want.length; i++) {
            due.is(call + ": item " + i, x.get(s, 2, i), want[i]);
        }
    }

    private static void checkFinding(LinenTunnel x, String call, int got, int want, int finding) {
        due.is(call, got, want);
        due.is(call + ": count(6)", x.count(6), finding);
    }
}
