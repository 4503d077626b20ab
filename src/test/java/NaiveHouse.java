import java.util.ArrayList;
import java.util.Comparator;
import java.util.List;

/**
 * The document told once more, in another way: real rows for sheets, lists of
 * pieces for batches, every order for a plan. RunsTest holds LinenTunnel to it.
 */
final class NaiveHouse {
    static final int BAD = -2, FULL = -3, NOT = -4;

    record Kind(int heat, int colour, boolean foul, int dry, int iron) { }

    static final class Piece {
        int number, kind, owner, place, washes;
        boolean chip;
    }

    static final class Batch {
        int kind;
        List<Piece> pieces = new ArrayList<>();
    }

    static final class Run {
        Batch batch;
        int in, out, dryer = -1, dry, iron = -1, done;
    }

    final List<Kind> kinds = new ArrayList<>();
    final List<Piece> pieces = new ArrayList<>();
    final List<Batch> batches = new ArrayList<>();
    List<Batch> order = new ArrayList<>();
    List<Run> runs = new ArrayList<>();
    final int[] washed = new int[7];
    final Object[] sheets = new Object[4];
    int c = 4, d = 2, i = 1, finding, washes;

    // ---- kinds, pieces

    int kind(int heat, int colour, boolean foul, int dry, int iron) {
        if (heat < 0 || heat > 3 || colour < 0 || colour > 2 || dry < 0 || dry > 9 || iron < 0 || iron > 9) return BAD;
        if (kinds.size() == 8) return FULL;
        kinds.add(new Kind(heat, colour, foul, dry, iron));
        return kinds.size() - 1;
    }

    int piece(int kind, int owner, boolean chip) {
        if (kind < 0 || kind >= kinds.size() || owner < 0 || owner > 5) return BAD;
        if (pieces.size() == 100) return FULL;
        Piece p = new Piece();
        p.number = pieces.size();
        p.kind = kind;
        p.owner = owner;
        p.chip = chip;
        pieces.add(p);
        return p.number;
    }

    Piece pieceOf(int n) {
        return n < 0 || n >= pieces.size() ? null : pieces.get(n);
    }

    int about(int piece, int what) {
        Piece p = pieceOf(piece);
        if (p == null || what < 0 || what > 5) return BAD;
        int batch = -1;
        for (Batch b : batches) if (b.pieces.contains(p)) batch = batches.indexOf(b);
        return new int[] {p.kind, p.owner, p.chip ? 1 : 0, p.place, p.washes, batch}[what];
    }

    int chip(int piece, boolean can) {
        Piece p = pieceOf(piece);
        if (p == null) return BAD;
        p.chip = can;
        return 1;
    }

    int lost(int piece) {
        Piece p = pieceOf(piece);
        if (p == null) return BAD;
        if (p.place == 2) return NOT;
        return p.place = p.place == 4 ? 0 : 4;
    }

    int again(int piece) {
        Piece p = pieceOf(piece);
        if (p == null) return BAD;
        if (p.place != 3) return NOT;
        p.place = 1;
        return 1;
    }

    List<Piece> those(int owner, int kind, int place) {
        List<Piece> those = new ArrayList<>(pieces);
        those.removeIf(p -> p.place != place);
        if (owner != -1) those.removeIf(p -> p.owner != owner);
        if (kind != -1) those.removeIf(p -> p.kind != kind);
        return those;
    }

    int pieces(int owner, int kind, int place) {
        if (owner < -1 || owner > 5 || kind < -1 || kind >= kinds.size() || place < 0 || place > 4) return BAD;
        return those(owner, kind, place).size();
    }

    int scan(int s, int n) {
        if (s < 0 || s > 3 || n < 0 || n > 60) return BAD;
        if (sheets[s] == null) return found(1);
        if (n > sizeOf(s)) return found(2);
        int came = 0;
        for (int k = 0; k < n; k++) {
            Piece p = pieceOf(itemOf(s, k));
            if (p != null && p.chip && p.place == 0) {
                p.place = 1;
                came++;
            }
        }
        return came;
    }

    int hand(int piece) {
        Piece p = pieceOf(piece);
        if (p == null) return BAD;
        if (p.place != 0) return NOT;
        p.place = 1;
        return 1;
    }

    // ---- batches

    int batch(int kind, int owner, int most) {
        if (kind < 0 || kind >= kinds.size() || owner < -1 || owner > 5 || most < 1 || most > 20) return BAD;
        if (batches.size() == 12) return FULL;
        List<Piece> those = those(owner, kind, 1);
        if (those.isEmpty()) return NOT;
        Batch b = new Batch();
        b.kind = kind;
        b.pieces.addAll(those.subList(0, Math.min(most, those.size())));
        for (Piece p : b.pieces) p.place = 2;
        batches.add(b);
        order.add(b);
        return b.pieces.size();
    }

    int at(int place) {
        return place < 0 || place >= order.size() ? -1 : batches.indexOf(order.get(place));
    }

    int of(int batch, int what) {
        if (batch < 0 || batch >= batches.size()) return BAD;
        Batch b = batches.get(batch);
        if (what == 0) return b.kind;
        if (what == 1) return b.pieces.size();
        if (what == 2) return order.indexOf(b);
        for (int k = 0; k < b.pieces.size(); k++) if (what == 10 + k) return b.pieces.get(k).number;
        return BAD;
    }

    int swap(int a, int b) {
        if (a < 0 || a >= order.size() || b < 0 || b >= order.size()) return BAD;
        java.util.Collections.swap(order, a, b);
        return 1;
    }

    int undo() {
        if (order.isEmpty()) return NOT;
        Batch b = order.remove(order.size() - 1);
        for (Piece p : b.pieces) p.place = 1;
        batches.remove(b);
        return batches.size();
    }

    int gap(Kind a, Kind b) {
        int gap = 0;
        for (int colour = a.colour; colour > b.colour; colour--) gap++;
        if (a.heat > b.heat + 1 || b.heat > a.heat + 1) gap++;
        return gap + (a.foul && !b.foul ? 2 : 0);
    }

    int between(int a, int b) {
        if (a < 0 || a >= kinds.size() || b < 0 || b >= kinds.size()) return BAD;
        return gap(kinds.get(a), kinds.get(b));
    }

    int gaps(List<Batch> row) {
        int gaps = 0;
        for (int k = 0; k + 1 < row.size(); k++) gaps += gap(kinds.get(row.get(k).kind), kinds.get(row.get(k + 1).kind));
        return gaps;
    }

    int empties() {
        return gaps(order);
    }

    int plan() {
        if (order.size() > 8) return NOT;
        List<List<Batch>> best = new ArrayList<>();
        tryAll(new ArrayList<>(), best);
        order = best.get(0);
        return empties();
    }

    /** Orders come by rising rows of numbers; only a cheaper one takes the place of one before. */
    private void tryAll(List<Batch> row, List<List<Batch>> best) {
        if (row.size() == batches.size()) {
            if (best.isEmpty()) best.add(new ArrayList<>(row));
            else if (gaps(row) < gaps(best.get(0))) best.set(0, new ArrayList<>(row));
            return;
        }
        for (Batch b : batches) {
            if (!row.contains(b)) {
                row.add(b);
                tryAll(row, best);
                row.remove(row.size() - 1);
            }
        }
    }

    int greedy() {
        if (order.isEmpty()) return 0;
        List<Batch> row = new ArrayList<>();
        row.add(order.get(0));
        List<Batch> left = new ArrayList<>(batches);
        left.remove(order.get(0));
        while (!left.isEmpty()) {
            Kind ahead = kinds.get(row.get(row.size() - 1).kind);
            Batch next = left.stream().min(Comparator.comparingInt(b -> gap(ahead, kinds.get(b.kind)))).get();
            row.add(next);
            left.remove(next);
        }
        order = row;
        return empties();
    }

    // ---- washing

    int tunnel(int nc, int nd, int ni) {
        if (nc < 2 || nc > 10 || nd < 1 || nd > 4 || ni < 1 || ni > 3) return BAD;
        c = nc;
        d = nd;
        i = ni;
        return 1;
    }

    int wash() {
        if (order.isEmpty()) return NOT;
        java.util.Arrays.fill(washed, 0);
        washed[1] = empties();
        washed[5] = order.size();
        runs = new ArrayList<>();
        List<Run> slots = new ArrayList<>();
        Batch ahead = null;
        for (Batch b : order) {
            if (ahead != null) for (int k = gap(kinds.get(ahead.kind), kinds.get(b.kind)); k > 0; k--) slots.add(null);
            Run r = new Run();
            r.batch = b;
            slots.add(r);
            runs.add(r);
            ahead = b;
            washed[6] += b.pieces.size();
        }
        washed[0] = moveAll(slots);
        iron();
        for (Run r : runs) washed[4] = Math.max(washed[4], r.done);
        for (Batch b : order) {
            for (Piece p : b.pieces) {
                p.place = 3;
                p.washes++;
            }
        }
        batches.clear();
        order.clear();
        washes++;
        return washed[0];
    }

    private int moveAll(List<Run> slots) {
        Run[] in = new Run[c];
        boolean[][] taken = new boolean[d][2000]; // a dryer at a beat
        int beat = 0;
        while (true) {
            beat++;
            Run last = in[c - 1];
            if (last != null) {
                int dry = kinds.get(last.batch.kind).dry;
                int dryer = -1;
                for (int k = d - 1; k >= 0; k--) if (!taken[k][beat]) dryer = k;
                if (dry > 0 && dryer == -1) {
                    washed[2]++;
                    continue;
                }
                last.out = beat;
                last.dry = beat + dry;
                if (dry > 0) {
                    last.dryer = dryer;
                    for (int t = beat; t < beat + dry; t++) taken[dryer][t] = true;
                }
            }
            System.arraycopy(in, 0, in, 1, c - 1);
            in[0] = slots.isEmpty() ? null : slots.remove(0);
            if (in[0] != null) in[0].in = beat;
            boolean empty = slots.isEmpty();
            for (int k = 0; k < c; k++) {
                if (in[k] == null) continue;
                empty = false;
                boolean fed = k + 1 < c && in[k + 1] != null && colour(in[k + 1]) <= colour(in[k]);
                if (!fed) washed[3] += 10 * in[k].batch.pieces.size();
            }
            if (empty) return beat;
        }
    }

    private int colour(Run r) {
        return kinds.get(r.batch.kind).colour;
    }

    private void iron() {
        List<Run> queue = new ArrayList<>(runs);
        queue.sort(Comparator.comparingInt((Run r) -> r.dry).thenComparingInt(r -> r.out));
        int[] free = new int[i];
        for (Run r : queue) {
            int beats = kinds.get(r.batch.kind).iron;
            r.done = r.dry;
            if (beats == 0) continue;
            for (int k = i - 1; k >= 0; k--) if (r.iron == -1 || free[k] <= free[r.iron]) r.iron = k;
            r.done = Math.max(r.dry, free[r.iron]) + beats;
            free[r.iron] = r.done;
        }
    }

    int washed(int what) {
        return what < 0 || what > 6 ? BAD : washed[what];
    }

    int run(int place, int what) {
        if (place < 0 || place >= runs.size() || what < 0 || what > 6) return BAD;
        Run r = runs.get(place);
        return new int[] {r.batch.kind, r.in, r.out, r.dryer, r.dry, r.iron, r.done}[what];
    }

    // ---- packs

    int pack(int owner, int kind, int n) {
        if (owner < 0 || owner > 5 || kind < 0 || kind >= kinds.size() || n < 1 || n > 40) return BAD;
        List<Piece> those = those(owner, kind, 3);
        if (those.size() < n) return -100 - (n - those.size());
        for (Piece p : those.subList(0, n)) p.place = 0;
        return n;
    }

    // ---- sheets

    int found(int number) {
        finding = number;
        return -10 - number;
    }

    // by hand: java.lang.reflect.Array.getInt made the JIT of OpenJDK 17.0.15 crash here
    private int itemOf(int s, int k) {
        if (sheets[s] instanceof byte[] b) return b[k];
        if (sheets[s] instanceof short[] h) return h[k];
        return ((int[]) sheets[s])[k];
    }

    private int sizeOf(int s) {
        if (sheets[s] instanceof byte[] b) return b.length;
        if (sheets[s] instanceof short[] h) return h.length;
        return ((int[]) sheets[s]).length;
    }

    int sheet(int s, int form, int n) {
        if (s < 0 || s > 3 || form < 0 || form > 2 || n > 60) return BAD;
        try {
            sheets[s] = form == 0 ? new byte[n] : form == 1 ? new short[n] : new int[n];
            return n;
        } catch (NegativeArraySizeException e) {
            return found(5);
        }
    }

    int lose(int s) {
        if (s < 0 || s > 3) return BAD;
        if (sheets[s] == null) return found(1);
        int had = sizeOf(s);
        sheets[s] = null;
        return had;
    }

    int put(int s, int form, int k, int v) {
        if (s < 0 || s > 3 || form < 0 || form > 2) return BAD;
        try {
            if (form == 0) ((byte[]) there(s))[k] = (byte) v;
            else if (form == 1) ((short[]) there(s))[k] = (short) v;
            else ((int[]) there(s))[k] = v;
            return 1;
        } catch (RuntimeException e) {
            return found(numberOf(e));
        }
    }

    int get(int s, int form, int k) {
        if (s < 0 || s > 3 || form < 0 || form > 2) return Integer.MIN_VALUE;
        try {
            return form == 0 ? ((byte[]) there(s))[k] : form == 1 ? ((short[]) there(s))[k] : ((int[]) there(s))[k];
        } catch (RuntimeException e) {
            found(numberOf(e));
            return Integer.MIN_VALUE;
        }
    }

    int copy(int s, int k, int t, int j, int n) {
        if (s < 0 || s > 3 || t < 0 || t > 3) return BAD;
        try {
            System.arraycopy(there(s), k, there(t), j, n);
            return 1;
        } catch (RuntimeException e) {
            return found(numberOf(e));
        }
    }

    private Object there(int s) {
        if (sheets[s] == null) throw new NullPointerException();
        return sheets[s];
    }

    private static int numberOf(RuntimeException e) {
        if (e instanceof NullPointerException) return 1;
        if (e instanceof IndexOutOfBoundsException) return 2;
        if (e instanceof ClassCastException) return 3;
        if (e instanceof ArrayStoreException) return 4;
        throw e;
    }

    int list(int s, int owner, int place) {
        if (s < 0 || s > 3 || owner < -1 || owner > 5 || place < 0 || place > 4) return BAD;
        if (sheets[s] == null) return found(1);
        int n = 0;
        for (Piece p : those(owner, -1, place)) {
            if (n == sizeOf(s)) break;
            if (sheets[s] instanceof byte[] b) b[n] = (byte) p.number;
            if (sheets[s] instanceof short[] h) h[n] = (short) p.number;
            if (sheets[s] instanceof int[] w) w[n] = p.number;
            n++;
        }
        return n;
    }

    int count(int what) {
        if (what < 0 || what > 7) return BAD;
        return new int[] {kinds.size(), pieces.size(), batches.size(), c, d, i, finding, washes}[what];
    }

    long digest() {
        List<Integer> told = new ArrayList<>();
        for (int what : new int[] {0, 1, 2, 3, 4, 5, 7}) told.add(count(what));
        for (Piece p : pieces) for (int what = 2; what <= 5; what++) told.add(about(p.number, what));
        for (Batch b : order) told.add(batches.indexOf(b));
        for (int what = 0; what <= 6; what++) told.add(washed(what));
        long h = 17;
        for (int v : told) h = 31L * h + v;
        return h;
    }
}
