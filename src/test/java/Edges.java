import java.util.Arrays;
import java.util.function.Consumer;
import java.util.function.IntToLongFunction;
import java.util.function.ToLongFunction;

/** Tests that are named by the sentence of the document that they hold the class to. */
final class Edges {
    static final int NONE = -1, BAD = -2, FULL = -3, NOT = -4;
    static final int NULL = -11, INDEX = -12, CAST = -13, STORE = -14, SIZE = -15;
    static final int LEAST = Integer.MIN_VALUE, GREATEST = Integer.MAX_VALUE;

    /** A call with one of its numbers left open. */
    interface Open {
        long call(LinenTunnel x, int v);
    }

    private final Due due;
    private final Words words;
    private String sentence = "";

    Edges(Due due, Words words) {
        this.due = due;
        this.words = words;
    }

    /** What is held from now on is held for these words. */
    void sentence(String section, String told) {
        sentence = section + ", \"" + told + "\": ";
        due.is(sentence + "the document says so", words.name(section, told) ? 1 : 0, 1);
    }

    void is(String call, long got, long want) {
        due.is(sentence + call, got, want);
    }

    /** A call that only tells: its answer is due, and it changes nothing. */
    void tells(Consumer<LinenTunnel> house, String call, ToLongFunction<LinenTunnel> made, long want) {
        leaves(house, call, made, want, 0);
    }

    /** A call that is refused changes nothing, but count() 6 at a FINDING. */
    void refuses(Consumer<LinenTunnel> house, String call, ToLongFunction<LinenTunnel> made, long want) {
        refuses(house, call, made, want, want <= NULL && want >= SIZE ? (int) (-10 - want) : 0);
    }

    /** As get() does: the answer doesn't tell the FINDING, count() 6 does. */
    void refuses(Consumer<LinenTunnel> house, String call, ToLongFunction<LinenTunnel> made, long want, int finding) {
        leaves(house, call, made, want, finding);
        leaves(house.andThen(x -> x.sheet(0, 0, -1)), call + " behind a finding", made, want, finding);
    }

    private void leaves(Consumer<LinenTunnel> house, String call, ToLongFunction<LinenTunnel> made, long want, int finding) {
        is(call, made.applyAsLong(Houses.after(house)), want);
        long[] before = Whole.of(house);
        long[] then = Whole.of(house.andThen(made::applyAsLong));
        if (finding != 0) {
            before[0] = finding;
        }
        is(call + ": the first thing that changed", Arrays.mismatch(before, then), -1);
    }

    /** A number is good from least to most; those beyond, and the farthest ones, are BAD. */
    void range(Consumer<LinenTunnel> house, String number, int least, int most, Open open, IntToLongFunction good) {
        range(house, number, least, most, open, good, BAD);
    }

    void range(Consumer<LinenTunnel> house, String number, int least, int most, Open open, IntToLongFunction good, long bad) {
        for (int v = least; v <= most; v++) {
            is(number + " " + v, open.call(Houses.after(house), v), good.applyAsLong(v));
        }
        for (int v : new int[] {least - 1, most + 1, LEAST, GREATEST}) {
            refuses(house, number + " " + v, x -> open.call(x, v), bad);
        }
    }

    /** A number that is BAD whatever it is, for there is no such thing yet. */
    void noneIsGood(Consumer<LinenTunnel> house, String number, Open open, long bad) {
        for (int v : new int[] {-1, 0, 1, LEAST, GREATEST}) {
            refuses(house, number + " " + v, x -> open.call(x, v), bad);
        }
    }

    void order(String call, LinenTunnel x, int... want) {
        is(call + ": how many wait", x.count(2), want.length);
        for (int place = 0; place < want.length; place++) {
            is(call + ": at(" + place + ")", x.at(place), want[place]);
        }
        is(call + ": at(" + want.length + ")", x.at(want.length), NONE);
    }

    void places(String call, LinenTunnel x, int... want) {
        for (int piece = 0; piece < want.length; piece++) {
            is(call + ": place of " + piece, x.about(piece, 3), want[piece]);
        }
    }

    void washed(String call, LinenTunnel x, int... want) {
        for (int what = 0; what < want.length; what++) {
            is(call + ": washed(" + what + ")", x.washed(what), want[what]);
        }
    }

    void run(String call, LinenTunnel x, int place, int... want) {
        for (int what = 0; what < want.length; what++) {
            is(call + ": run(" + place + ", " + what + ")", x.run(place, what), want[what]);
        }
    }

    void items(String call, LinenTunnel x, int s, int form, int... want) {
        for (int i = 0; i < want.length; i++) {
            is(call + ": item " + i, x.get(s, form, i), want[i]);
        }
    }
}
