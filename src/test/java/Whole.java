import java.util.ArrayList;
import java.util.List;
import java.util.function.BiConsumer;
import java.util.function.Consumer;

/**
 * All that can be seen of a house. Each look is at a house of its own that was made
 * alike, so that no object comes near its 512th call, and no look spoils the next.
 */
final class Whole {
    private static final int PIECES_AT_ONCE = 25, BATCHES_AT_ONCE = 6;

    private final List<BiConsumer<LinenTunnel, Whole>> looks = new ArrayList<>();
    private final List<Long> seen = new ArrayList<>();

    private Whole() {
        looks.add((x, w) -> w.see(x.count(6)));
        looks.add(Whole::lookAtCounts);
        looks.add(Whole::lookAtRuns);
        for (int b = 0; b < 12; b += BATCHES_AT_ONCE) {
            int first = b;
            looks.add((x, w) -> w.lookAtBatches(x, first));
        }
        for (int p = 0; p < 100; p += PIECES_AT_ONCE) {
            int first = p;
            looks.add((x, w) -> w.lookAtPieces(x, first));
        }
        for (int s = 0; s < 4; s++) {
            int sheet = s;
            looks.add((x, w) -> w.lookAtSheet(x, sheet));
        }
        looks.add(Whole::washIt);
        looks.add(Whole::undoAll);
        looks.add(Whole::orderAnew);
        looks.add(Whole::addMore);
    }

    /** What is seen; the first is count(6). */
    static long[] of(Consumer<LinenTunnel> house) {
        Whole whole = new Whole();
        for (BiConsumer<LinenTunnel, Whole> look : whole.looks) {
            LinenTunnel x = new LinenTunnel();
            house.accept(x);
            look.accept(x, whole);
        }
        return whole.seen.stream().mapToLong(Long::longValue).toArray();
    }

    private void see(long answer) {
        seen.add(answer);
    }

    private static void lookAtCounts(LinenTunnel x, Whole w) {
        for (int what : new int[] {0, 1, 2, 3, 4, 5, 7}) {
            w.see(x.count(what));
        }
        w.see(x.digest());
        w.see(x.empties());
        for (int place = 0; place <= 12; place++) {
            w.see(x.at(place));
        }
        for (int a = 0; a < 8; a++) {
            for (int b = 0; b < 8; b++) {
                w.see(x.between(a, b));
            }
        }
    }

    private static void lookAtRuns(LinenTunnel x, Whole w) {
        for (int what = 0; what <= 6; what++) {
            w.see(x.washed(what));
            for (int place = 0; place <= 12; place++) {
                w.see(x.run(place, what));
            }
        }
    }

    private void lookAtBatches(LinenTunnel x, int first) {
        for (int batch = first; batch < first + BATCHES_AT_ONCE; batch++) {
            for (int what = 0; what < 30; what++) {
                if (what < 3 || what > 9) {
                    see(x.of(batch, what));
                }
            }
        }
    }

    private void lookAtPieces(LinenTunnel x, int first) {
        for (int piece = first; piece < first + PIECES_AT_ONCE; piece++) {
            for (int what = 0; what <= 5; what++) {
                see(x.about(piece, what));
            }
        }
    }

    // put() tells LOST sheets and other forms apart, lose() how many items there are
    private void lookAtSheet(LinenTunnel x, int s) {
        for (int form = 0; form <= 2; form++) {
            for (int i = 0; i < 60; i++) {
                see(x.get(s, form, i));
            }
            see(x.put(s, form, 0, 0));
        }
        see(x.lose(s));
    }

    private static void washIt(LinenTunnel x, Whole w) {
        w.see(x.wash());
        w.see(x.digest());
        lookAtRuns(x, w);
    }

    private static void undoAll(LinenTunnel x, Whole w) {
        for (int step = 0; step < 12; step++) {
            w.see(x.undo());
            w.see(x.digest());
        }
    }

    private static void orderAnew(LinenTunnel x, Whole w) {
        w.see(x.greedy());
        w.see(x.digest());
        w.see(x.plan());
        w.see(x.digest());
    }

    private static void addMore(LinenTunnel x, Whole w) {
        w.see(x.piece(0, 0, true));
        w.see(x.kind(0, 0, false, 0, 0));
        w.see(x.batch(0, -1, 20));
        w.see(x.digest());
    }
}
