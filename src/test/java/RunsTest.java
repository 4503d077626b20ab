import java.util.List;

/** Runs of drawn calls: each answer of LinenTunnel is that of NaiveHouse. */
public final class RunsTest {
    private static final int RUNS = 3000, KIND = 0, PIECE = 1, HAND = 8, WASH = 20, SHEET = 22;
    private static final int OUT = 0, CLEAN = 3, LOST = 4;
    // a wash is followed by 12 times 7 looks at its runs, and each step perhaps by two more
    private static final int CALLS = 512, MOST_OF_A_STEP = 1 + 12 * 7 + 2;
    private static final int[] ODD = {
        -1, -2, -3, -100, Integer.MIN_VALUE, Integer.MAX_VALUE, Integer.MIN_VALUE + 1, 1 << 16, 1 << 30, 61, 101,
    };
    // how often each call is drawn, by its number in pieceCall() to sheetCall()
    private static final int[] OFTEN = {
        4, 14, 6, 2, 3, 3, 3, 6, 12, 12,
        4, 3, 5, 2, 2, 1, 2, 4,
        3, 3, 4, 4,
        3, 12, 1, 5, 5, 5, 3, 14,
    };

    private static final Due due = new Due("RunsTest");
    private static long seed = 20261118;

    private final LinenTunnel x = new LinenTunnel();
    private final NaiveHouse y = new NaiveHouse();
    private final int run;
    private final int odd;
    private final int owners;
    private final boolean hoards;

    private RunsTest(int run) {
        this.run = run;
        odd = run % 4 == 0 ? 12 : run % 4 == 1 ? 60 : 1000;
        owners = run % 5 == 0 ? 6 : 1 + run % 3;
        hoards = run % 3 == 0;
    }

    public static void main(String[] args) {
        for (int run = 0; run < RUNS && !due.hasWrong(); run++) {
            new RunsTest(run).callAll();
        }
        due.end();
    }

    private void callAll() {
        int before = due.answers();
        callSome(KIND, draw(4) == 0 ? 8 : 3);
        callSome(PIECE, run % 6 == 0 ? 98 : hoards ? 60 : 20);
        callSome(SHEET, run % 2 == 0 ? 6 : 0);
        callSome(HAND, hoards ? 40 : 0);
        for (int step = 0; due.answers() - before <= CALLS - MOST_OF_A_STEP; step++) {
            int number = drawCall();
            if (number == WASH && hoards && draw(8) > 0) {
                number = HAND;
            }
            call(number);
            if (step % 8 == 0) {
                due.is("run " + run + ", step " + step + ": digest", x.digest(), y.digest());
                due.is("run " + run + ", step " + step + ": count(6)", x.count(6), y.count(6));
            }
        }
    }

    private void callSome(int number, int times) {
        for (int k = 0; k < times; k++) {
            call(number);
        }
    }

    private void call(int number) {
        String name = "run " + run + ": ";
        if (number <= 9) {
            pieceCall(name, number);
        } else if (number <= 17) {
            batchCall(name, number);
        } else if (number <= 21) {
            washCall(name, number);
        } else {
            sheetCall(name, number);
        }
    }

    private void pieceCall(String name, int number) {
        int a = number == 0 ? value(0, 3) : number == 1 || number == 6 ? kindOf(number) : pieceFor(number);
        int b = number == 0 ? value(0, 2) : number == 2 ? value(0, 5) : ownerOf(number == 6 ? -1 : 0);
        int c = value(0, number == 0 ? 9 : 4);
        int e = value(0, 9);
        boolean can = draw(4) > 0;
        switch (number) {
            case 0: due.is(say(name, "kind", a, b, c, e), x.kind(a, b, !can, c, e), y.kind(a, b, !can, c, e)); break;
            case 1: due.is(say(name, "piece", a, b), x.piece(a, b, can), y.piece(a, b, can)); break;
            case 2: due.is(say(name, "about", a, b), x.about(a, b), y.about(a, b)); break;
            case 3: due.is(say(name, "chip", a), x.chip(a, can), y.chip(a, can)); break;
            case 4: due.is(say(name, "lost", a), x.lost(a), y.lost(a)); break;
            case 5: due.is(say(name, "again", a), x.again(a), y.again(a)); break;
            case 6: due.is(say(name, "pieces", b, a, c), x.pieces(b, a, c), y.pieces(b, a, c)); break;
            case 7: scanSome(name); break;
            default: due.is(say(name, "hand", a), x.hand(a), y.hand(a)); break;
        }
    }

    private void scanSome(String name) {
        int s = value(0, 3);
        int n = draw(2) == 0 ? value(0, 60) : value(0, 8);
        due.is(say(name, "scan", s, n), x.scan(s, n), y.scan(s, n));
    }

    private void batchCall(String name, int number) {
        int waits = y.batches.size();
        int a = value(0, waits);
        int b = value(0, waits);
        switch (number) {
            case 10: {
                int what = draw(2) == 0 ? value(0, 2) : value(3, 31);
                due.is(say(name, "of", a, what), x.of(a, what), y.of(a, what));
                break;
            }
            case 11: due.is(say(name, "at", a), x.at(a), y.at(a)); break;
            case 12: due.is(say(name, "swap", a, b), x.swap(a, b), y.swap(a, b)); break;
            case 13: due.is(say(name, "undo"), x.undo(), y.undo()); break;
            case 14: {
                int j = kindOf(14);
                int k = kindOf(14);
                due.is(say(name, "between", j, k), x.between(j, k), y.between(j, k));
                break;
            }
            case 15: due.is(say(name, "empties"), x.empties(), y.empties()); break;
            case 16: planSome(name, waits); break;
            default: due.is(say(name, "greedy"), x.greedy(), y.greedy()); break;
        }
    }

    // the naive plan of eight tries 40320 orders
    private void planSome(String name, int waits) {
        if (waits <= 6 || waits > 8 || draw(8) == 0) {
            due.is(say(name, "plan"), x.plan(), y.plan());
        }
    }

    private void washCall(String name, int number) {
        int a = value(0, 12);
        int b = value(0, 6);
        switch (number) {
            case 18: {
                int c = value(2, 10);
                int d = value(1, 4);
                int i = value(1, 3);
                due.is(say(name, "tunnel", c, d, i), x.tunnel(c, d, i), y.tunnel(c, d, i));
                break;
            }
            case 19:
                due.is(say(name, "run", a, b), x.run(a, b), y.run(a, b));
                due.is(say(name, "washed", b), x.washed(b), y.washed(b));
                break;
            case 20: {
                due.is(say(name, "wash"), x.wash(), y.wash());
                for (int place = 0; place < y.runs.size(); place++) {
                    for (int what = 0; what < 7; what++) {
                        due.is(say(name, "run", place, what), x.run(place, what), y.run(place, what));
                    }
                }
                break;
            }
            default: packSome(name); break;
        }
    }

    private void packSome(String name) {
        NaiveHouse.Piece clean = y.pieceOf(pieceAt(CLEAN));
        boolean isLike = clean != null && draw(4) > 0;
        int owner = isLike ? clean.owner : ownerOf(0);
        int kind = isLike ? clean.kind : kindOf(1);
        int n = draw(4) == 0 ? value(1, 40) : value(1, 4);
        due.is(say(name, "pack", owner, kind, n), x.pack(owner, kind, n), y.pack(owner, kind, n));
    }

    private void sheetCall(String name, int number) {
        int s = value(0, 3);
        int t = value(0, 3);
        int form = draw(8) == 0 ? value(0, 2) : formOf(s);
        int i = draw(6) == 0 ? value(0, 60) : value(0, 12);
        int j = draw(6) == 0 ? value(0, 60) : value(0, 12);
        int n = draw(6) == 0 ? value(0, 60) : value(0, 6);
        switch (number) {
            case 22: {
                int f = value(0, 2);
                int size = draw(16) == 0 ? -1 - draw(5) : value(0, draw(2) == 0 ? 60 : 12);
                due.is(say(name, "sheet", s, f, size), x.sheet(s, f, size), y.sheet(s, f, size));
                break;
            }
            case 23: {
                int v = draw(3) > 0 ? pieceOf() : (int) (next() >>> 16);
                due.is(say(name, "put", s, form, i, v), x.put(s, form, i, v), y.put(s, form, i, v));
                break;
            }
            case 24: due.is(say(name, "lose", s), x.lose(s), y.lose(s)); break;
            case 25: due.is(say(name, "get", s, form, i), x.get(s, form, i), y.get(s, form, i)); break;
            case 26: due.is(say(name, "copy", s, i, t, j, n), x.copy(s, i, t, j, n), y.copy(s, i, t, j, n)); break;
            case 27: {
                int owner = ownerOf(-1);
                int place = value(0, 4);
                due.is(say(name, "list", s, owner, place), x.list(s, owner, place), y.list(s, owner, place));
                break;
            }
            case 28: due.is(say(name, "count", t), x.count(t), y.count(t)); break;
            default: makeBatch(name); break;
        }
    }

    private void makeBatch(String name) {
        int kind = kindOf(1);
        int owner = draw(2) == 0 ? -1 : ownerOf(-1);
        int most = draw(3) == 0 ? value(1, 20) : value(1, 2);
        due.is(say(name, "batch", kind, owner, most), x.batch(kind, owner, most), y.batch(kind, owner, most));
    }

    private int kindOf(int number) {
        return value(number == 6 ? -1 : 0, Math.max(0, y.kinds.size() - (draw(20) == 0 ? 0 : 1)));
    }

    private int pieceOf() {
        return value(0, Math.max(0, y.pieces.size() - (draw(20) == 0 ? 0 : 1)));
    }

    private int ownerOf(int least) {
        return value(least, draw(8) == 0 ? 5 : owners - 1);
    }

    /** Mostly a piece that the call can do something with. */
    private int pieceFor(int number) {
        return draw(3) == 0 ? pieceOf() : pieceAt(number == 5 ? CLEAN : number == HAND ? OUT : draw(LOST + 1));
    }

    private int pieceAt(int place) {
        List<NaiveHouse.Piece> those = y.those(-1, -1, place);
        return those.isEmpty() ? pieceOf() : those.get(draw(those.size())).number;
    }

    private int formOf(int s) {
        if (s < 0 || s > 3 || y.sheets[s] == null) {
            return value(0, 2);
        }
        return y.sheets[s] instanceof byte[] ? 0 : y.sheets[s] instanceof short[] ? 1 : 2;
    }

    /** A number from the least to the most one, now and then an odd one. */
    private int value(int least, int most) {
        if (draw(odd) == 0) {
            return draw(3) == 0 ? ODD[draw(ODD.length)] : draw(2) == 0 ? least - 1 : most + 1;
        }
        return least + draw(most - least + 1);
    }

    private static int drawCall() {
        int all = 0;
        for (int often : OFTEN) {
            all += often;
        }
        int left = draw(all);
        int call = 0;
        while (left >= OFTEN[call]) {
            left -= OFTEN[call];
            call++;
        }
        return call;
    }

    private static int draw(int n) {
        return (int) (next() >>> 33) % n;
    }

    private static long next() {
        seed = seed * 6364136223846793005L + 1442695040888963407L;
        return seed;
    }

    private static String say(String run, String call, int... told) {
        StringBuilder text = new StringBuilder(run).append(call).append('(');
        for (int k = 0; k < told.length; k++) {
            text.append(k == 0 ? "" : ", ").append(told[k]);
        }
        return text.append(')').toString();
    }
}
