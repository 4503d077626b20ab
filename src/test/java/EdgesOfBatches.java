import java.util.function.Consumer;

/** The sentences of promises 11 to 19 that name a boundary. */
final class EdgesOfBatches {
    private static final int NONE = Edges.NONE, BAD = Edges.BAD, FULL = Edges.FULL, NOT = Edges.NOT;
    private static final int LEAST = Edges.LEAST, GREATEST = Edges.GREATEST;

    private final Edges e;

    EdgesOfBatches(Edges edges) {
        e = edges;
    }

    void all() {
        batchOfKindsAndOwners();
        batchSoManyAtMost();
        batchTellsHowMany();
        batchBad();
        batchFull();
        batchNot();
        atPlaces();
        atNumbersAsTheyCame();
        atNone();
        ofAll();
        ofPieces();
        ofBad();
        swapPlaces();
        swapBad();
        undoTheLastPlace();
        undoNumbers();
        undoTellsHowMany();
        undoNot();
        betweenKinds();
        betweenBad();
        emptiesOfTheOrder();
        planLeast();
        planOfLikeOnes();
        planTellsEmpties();
        planNot();
        greedyFirstStays();
        greedyNext();
        greedyTellsEmpties();
    }

    // ---- 11: batch

    private void batchOfKindsAndOwners() {
        e.sentence("Promise 11", "SOILED PIECES of a KIND, of an OWNER (-1: any), by numbers,");
        for (int owner = -1; owner <= 5; owner++) {
            LinenTunnel x = Houses.after(Houses.pieces(20));
            Houses.handAll(x, 1, 18);
            int of = owner;
            e.is("of owner " + owner, x.batch(0, owner, 20), owner == -1 ? 18 : 3);
            for (int p = 0; p < 20; p++) {
                boolean taken = p >= 1 && p <= 18 && (of == -1 || p % 6 == of);
                e.is("of owner " + owner + ": piece " + p, x.about(p, 5), taken ? 0 : NONE);
            }
        }
        LinenTunnel y = Houses.after(Houses::busy);
        e.is("of kind 2, of any: 11", y.batch(2, -1, 20), 1);
        e.is("of kind 1, of owner 4: 10", y.batch(1, 4, 20), 1);
        e.places("then", y, 2, 3, 3, 3, 3, 2, 3, 2, 2, 4, 2, 2, 0, 0, 0, 0, 0, 4);
    }

    private void batchSoManyAtMost() {
        e.sentence("Promise 11", "so many at most (1 to 20),");
        for (int most = 1; most <= 20; most++) {
            LinenTunnel x = Houses.after(Houses.soiled(25));
            e.is("at most " + most, x.batch(0, 0, most), most);
            e.is("the last of them", x.about(most - 1, 3), 2);
            e.is("the first that is left", x.about(most, 3), 1);
        }
        e.range(Houses.soiled(21), "most", 1, 20, (x, v) -> x.batch(0, -1, v), v -> v);
    }

    private void batchTellsHowMany() {
        e.sentence("Promise 11", "are a BATCH: how many PIECES");
        for (int there = 1; there <= 21; there++) {
            LinenTunnel x = Houses.after(Houses.soiled(there));
            e.is("20 of " + there, x.batch(0, -1, 20), Math.min(20, there));
        }
        LinenTunnel y = Houses.after(Houses.soiled(3));
        e.is("7 of 3", y.batch(0, -1, 7), 3);
        e.is("they are one batch", y.count(2), 1);
    }

    private void batchBad() {
        e.sentence("Promise 11", "BAD");
        e.noneIsGood(Houses::empty, "kind where there is none", (x, v) -> x.batch(v, -1, 1), BAD);
        e.range(Houses::busy, "kind of three", 0, 2, (x, v) -> x.batch(v, -1, 1), v -> v == 0 ? NOT : 1);
        e.range(Houses::busy, "owner", -1, 5, (x, v) -> x.batch(2, v, 1), v -> v == -1 || v == 5 ? 1 : NOT);
        e.range(Houses::busy, "most", 1, 20, (x, v) -> x.batch(1, 4, v), v -> 1);
        e.range(Houses::full, "kind of eight", 0, 7, (x, v) -> x.batch(v, -1, 1), v -> FULL);
        e.range(Houses::full, "owner", -1, 5, (x, v) -> x.batch(0, v, 1), v -> FULL);
        e.range(Houses::full, "most", 1, 20, (x, v) -> x.batch(0, 0, v), v -> FULL);
    }

    private void batchFull() {
        e.sentence("Promise 11", "FULL: 12 wait");
        Consumer<LinenTunnel> twelve = Houses.soiled(14).andThen(x -> {
            for (int b = 0; b < 12; b++) {
                x.batch(0, -1, 1);
            }
        });
        LinenTunnel x = Houses.after(twelve);
        x.undo();
        e.is("where eleven wait", x.batch(0, -1, 1), 1);
        e.refuses(twelve, "where twelve wait", y -> y.batch(0, -1, 1), FULL);
        e.refuses(Houses.waiting(12), "where twelve wait, and none is SOILED", y -> y.batch(0, -1, 1), FULL);
        LinenTunnel z = Houses.after(twelve);
        z.wash();
        e.is("as they are washed", z.batch(0, -1, 1), 1);
    }

    private void batchNot() {
        e.sentence("Promise 11", "NOT: there are none");
        e.refuses(Houses.kinds(1), "none at all", x -> x.batch(0, -1, 20), NOT);
        e.refuses(Houses.pieces(6), "all are OUT", x -> x.batch(0, -1, 20), NOT);
        e.refuses(Houses.clean(6), "all are CLEAN", x -> x.batch(0, -1, 20), NOT);
        e.refuses(Houses.waiting(6), "all are in batches", x -> x.batch(0, -1, 20), NOT);
        e.refuses(Houses::busy, "none of the kind", x -> x.batch(0, -1, 20), NOT);
        e.refuses(Houses::busy, "none of the owner", x -> x.batch(2, 4, 20), NOT);
        LinenTunnel x = Houses.after(Houses.soiled(1));
        x.lost(0);
        e.is("the one there was is LOST", x.batch(0, -1, 20), NOT);
    }

    // ---- 12: at

    private void atPlaces() {
        e.sentence("Promise 12", "The BATCH at a place of THE ORDER");
        for (int place = 0; place < 3; place++) {
            int at = place;
            e.tells(Houses::busy, "at(" + place + ")", x -> x.at(at), 2 - place);
        }
        LinenTunnel y = Houses.after(Houses::full);
        y.swap(0, 11);
        e.is("the first", y.at(0), 11);
        e.is("the last", y.at(11), 0);
    }

    private void atNumbersAsTheyCame() {
        e.sentence("Promise 12", "(BATCHES that wait are numbered from 0 as they came)");
        LinenTunnel x = Houses.after(Houses.kinds(2));
        Houses.addSoiled(x, 0, 2);
        Houses.addSoiled(x, 1, 1);
        x.batch(1, -1, 1);
        x.batch(0, -1, 1);
        e.is("the first that came", x.about(2, 5), 0);
        e.is("the second that came", x.about(0, 5), 1);
        x.wash();
        x.batch(0, -1, 1);
        e.is("from 0 behind a wash", x.about(1, 5), 0);
        e.order("behind a wash", x, 0);
    }

    private void atNone() {
        e.sentence("Promise 12", "NONE");
        for (int place : new int[] {-1, 0, 1, LEAST, GREATEST}) {
            e.tells(Houses::empty, "of none: at(" + place + ")", x -> x.at(place), NONE);
        }
        for (int place : new int[] {-1, 3, 4, 12, LEAST, GREATEST}) {
            e.tells(Houses::busy, "of three: at(" + place + ")", x -> x.at(place), NONE);
        }
        for (int place : new int[] {-1, 12, 13, LEAST, GREATEST}) {
            e.tells(Houses::full, "of twelve: at(" + place + ")", x -> x.at(place), NONE);
        }
        LinenTunnel y = Houses.after(Houses::full);
        y.undo();
        e.is("of eleven: at(11)", y.at(11), NONE);
        y.wash();
        e.is("behind a wash: at(0)", y.at(0), NONE);
    }

    // ---- 13: of

    private void ofAll() {
        e.sentence("Promise 13", "Of a BATCH: 0 KIND, 1 how many PIECES, 2 its place in THE ORDER,");
        int[][] want = {{2, 2, 2}, {0, 1, 1}, {1, 1, 0}};
        for (int batch = 0; batch < 3; batch++) {
            for (int what = 0; what < 3; what++) {
                int of = batch;
                int asked = what;
                e.tells(Houses::busy, "of(" + batch + ", " + what + ")", x -> x.of(of, asked), want[batch][what]);
            }
        }
        LinenTunnel y = Houses.after(Houses::full);
        y.swap(0, 11);
        e.is("the last: kind", y.of(11, 0), 3);
        e.is("the last: size", y.of(11, 1), 4);
        e.is("the last: place", y.of(11, 2), 0);
        e.is("the first: place", y.of(0, 2), 11);
    }

    private void ofPieces() {
        e.sentence("Promise 13", "10 + k its k-th PIECE");
        for (int size : new int[] {1, 2, 19, 20}) {
            LinenTunnel x = Houses.after(Houses.pieces(60));
            Houses.handAll(x, 0, 59);
            x.batch(0, 1, 7);
            x.batch(0, -1, size);
            int[] rest = new int[20];
            int number = 0;
            for (int k = 0; k < size; k++) {
                number += number % 6 == 1 && number < 42 ? 1 : 0;
                rest[k] = number;
                number++;
            }
            for (int k = 0; k < size; k++) {
                e.is(k + " of " + size, x.of(1, 10 + k), rest[k]);
            }
            e.is("one behind the last of " + size, x.of(1, 10 + size), BAD);
        }
        e.tells(Houses::busy, "the first of two", x -> x.of(0, 10), 5);
        e.tells(Houses::busy, "the second of two", x -> x.of(0, 11), 8);
    }

    private void ofBad() {
        e.sentence("Promise 13", "BAD");
        e.noneIsGood(Houses::empty, "batch where none waits", (x, v) -> x.of(v, 0), BAD);
        e.range(Houses::busy, "batch of three", 0, 2, (x, v) -> x.of(v, 1), v -> v == 0 ? 2 : 1);
        e.range(Houses::full, "batch of twelve", 0, 11, (x, v) -> x.of(v, 2), v -> v);
        e.range(Houses::busy, "what", 0, 2, (x, v) -> x.of(0, v), v -> 2);
        e.range(Houses::busy, "what of a piece", 10, 11, (x, v) -> x.of(0, v), v -> 5 + 3 * (v - 10));
        e.range(Houses.soiled(20).andThen(x -> x.batch(0, -1, 20)), "what of 20 pieces", 10, 29, (x, v) -> x.of(0, v), v -> v - 10);
        for (int what = 3; what <= 9; what++) {
            int asked = what;
            e.refuses(Houses::busy, "what " + what, x -> x.of(1, asked), BAD);
        }
    }

    // ---- 14: swap

    private void swapPlaces() {
        e.sentence("Promise 14", "BATCHES at two places of THE ORDER change places: 1.");
        for (int i = 0; i < 12; i++) {
            for (int j = 0; j < 12; j++) {
                LinenTunnel x = Houses.after(Houses.waiting(12));
                e.is("swap(" + i + ", " + j + ")", x.swap(i, j), 1);
                for (int place = 0; place < 12; place++) {
                    e.is("place " + place, x.at(place), place == i ? j : place == j ? i : place);
                }
            }
        }
        LinenTunnel y = Houses.after(Houses.waiting(1));
        e.is("one with itself", y.swap(0, 0), 1);
        e.order("one with itself", y, 0);
        LinenTunnel z = Houses.after(Houses::busy);
        z.swap(0, 1);
        e.order("places, not numbers", z, 1, 2, 0);
        e.is("its pieces stay with it", z.about(0, 5), 1);
    }

    private void swapBad() {
        e.sentence("Promise 14", "BAD");
        e.noneIsGood(Houses::empty, "i where none waits", (x, v) -> x.swap(v, v), BAD);
        e.noneIsGood(Houses.waiting(0), "j where none waits", (x, v) -> x.swap(0, v), BAD);
        e.range(Houses::busy, "i of three", 0, 2, (x, v) -> x.swap(v, 1), v -> 1);
        e.range(Houses::busy, "j of three", 0, 2, (x, v) -> x.swap(1, v), v -> 1);
        e.range(Houses::full, "i of twelve", 0, 11, (x, v) -> x.swap(v, 11), v -> 1);
        e.range(Houses::full, "j of twelve", 0, 11, (x, v) -> x.swap(0, v), v -> 1);
        e.range(Houses.waiting(3), "both of three", 0, 2, (x, v) -> x.swap(v, v), v -> 1);
    }

    // ---- 15: undo

    private void undoTheLastPlace() {
        e.sentence("Promise 15", "The BATCH at the last place of THE ORDER is undone, its PIECES are SOILED");
        LinenTunnel x = Houses.after(Houses::busy);
        x.undo();
        e.places("batch 0 stood last", x, 2, 3, 3, 3, 3, 1, 3, 2, 1, 4, 1, 1, 0, 0, 0, 0, 0, 4);
        e.is("their washes stay", x.about(5, 4), 0);
        e.is("they are in none", x.about(8, 5), NONE);
        LinenTunnel y = Houses.after(Houses.soiled(20));
        y.batch(0, -1, 20);
        y.undo();
        e.is("all twenty of one", y.pieces(-1, -1, 1), 20);
        e.order("all twenty of one", y);
    }

    private void undoNumbers() {
        e.sentence("Promise 15", "later numbers are one less");
        for (int last = 0; last < 12; last++) {
            LinenTunnel x = Houses.after(Houses.waiting(12));
            x.swap(last, 11);
            x.undo();
            for (int place = 0; place < 11; place++) {
                int was = place == last ? 11 : place;
                int want = was > last ? was - 1 : was;
                e.is(last + " is undone: place " + place, x.at(place), want);
                e.is(last + " is undone: its piece", x.about(was, 5), want);
                e.is(last + " is undone: its piece, told by it", x.of(want, 10), was);
                e.is(last + " is undone: its place", x.of(want, 2), place);
            }
            e.is(last + " is undone: its own piece", x.about(last, 5), NONE);
            e.is(last + " is undone: number 11", x.of(11, 0), BAD);
        }
        LinenTunnel y = Houses.after(Houses::busy);
        y.undo();
        e.is("kind of what was 1", y.of(0, 0), 0);
        e.is("kind of what was 2", y.of(1, 0), 1);
        e.is("size of what was 1", y.of(0, 1), 1);
        e.order("of three", y, 1, 0);
    }

    private void undoTellsHowMany() {
        e.sentence("Promise 15", "how many wait");
        LinenTunnel x = Houses.after(Houses::full);
        for (int left = 11; left >= 0; left--) {
            e.is("undo", x.undo(), left);
            e.is("that wait", x.count(2), left);
        }
        e.is("one more", x.undo(), NOT);
        e.is("all are SOILED", x.pieces(-1, -1, 1), 90);
    }

    private void undoNot() {
        e.sentence("Promise 15", "NOT: none does");
        e.refuses(Houses::empty, "of a new one", x -> x.undo(), NOT);
        e.refuses(Houses.soiled(9), "none yet", x -> x.undo(), NOT);
        e.refuses(Houses.clean(9), "behind a wash", x -> x.undo(), NOT);
        e.is("of one", Houses.after(Houses.waiting(1)).undo(), 0);
    }

    // ---- 16: between, 17: empties

    private void betweenKinds() {
        e.sentence("Promise 16", "EMPTIES BETWEEN two KINDS, a ahead.");
        int[][] want = {{0, 1, 0}, {5, 0, 4}, {1, 1, 0}};
        for (int a = 0; a < 3; a++) {
            for (int b = 0; b < 3; b++) {
                int ahead = a;
                int next = b;
                e.tells(Houses::busy, "between(" + a + ", " + b + ")", x -> x.between(ahead, next), want[a][b]);
            }
        }
    }

    private void betweenBad() {
        e.sentence("Promise 16", "BAD");
        e.noneIsGood(Houses::empty, "a where there is none", (x, v) -> x.between(v, v), BAD);
        e.range(Houses::busy, "a of three", 0, 2, (x, v) -> x.between(v, 0), v -> new int[] {0, 5, 1}[v]);
        e.range(Houses::busy, "b of three", 0, 2, (x, v) -> x.between(0, v), v -> new int[] {0, 1, 0}[v]);
        e.range(Houses.kinds(8), "a of eight", 0, 7, (x, v) -> x.between(v, 7), v -> 0);
        e.range(Houses.kinds(8), "b of eight", 0, 7, (x, v) -> x.between(0, v), v -> 0);
    }

    private void emptiesOfTheOrder() {
        e.sentence("Promise 17", "EMPTIES of THE ORDER.");
        e.tells(Houses::empty, "of none", x -> x.empties(), 0);
        e.tells(Houses.waiting(1), "of one", x -> x.empties(), 0);
        e.tells(Houses.waiting(12), "of twelve of a kind", x -> x.empties(), 0);
        e.tells(Houses::busy, "of kinds 1, 0, 2", x -> x.empties(), 5);
        LinenTunnel y = Houses.after(Houses::busy);
        y.swap(0, 1);
        e.is("of kinds 0, 1, 2", y.empties(), 5);
        y.undo();
        e.is("of kinds 0, 1", y.empties(), 1);
        y.wash();
        e.is("behind a wash", y.empties(), 0);
    }

    // ---- 18: plan

    private void planLeast() {
        e.sentence("Promise 18", "THE ORDER becomes that with the least EMPTIES");
        e.is("of none", Houses.after(Houses::empty).plan(), 0);
        LinenTunnel one = Houses.after(Houses.waiting(1));
        e.is("of one", one.plan(), 0);
        e.order("of one", one, 0);
        LinenTunnel x = Houses.after(Houses::busy);
        e.is("of kinds 2, 0, 1", x.plan(), 1);
        e.order("of kinds 2, 0, 1: kinds 0, 2, 1 cost least", x, 1, 0, 2);
        LinenTunnel y = colours(2, 1, 0, 2, 1, 0, 2, 0);
        e.is("of eight", y.plan(), 0);
        e.order("of eight", y, 2, 5, 7, 1, 4, 0, 3, 6);
        LinenTunnel z = heats(2, 0, 3);
        e.is("of three heats", z.plan(), 1);
        e.order("of three heats", z, 0, 2, 1);
        z.swap(1, 2);
        z.undo();
        e.is("a plan behind a plan of more", z.plan(), 1);
        e.order("a plan behind a plan of more", z, 0, 1);
        LinenTunnel w = heats(3, 3, 0, 0, 3, 3, 0, 1);
        e.is("of eight heats", w.plan(), 1);
        e.order("of eight heats", w, 0, 1, 4, 5, 2, 3, 6, 7);
    }

    private void planOfLikeOnes() {
        e.sentence("Promise 18", "of like ones that which, from the first place in which they part, has the lesser BATCH");
        LinenTunnel x = Houses.after(Houses.waiting(8));
        x.swap(0, 7);
        x.swap(1, 6);
        x.swap(2, 3);
        e.is("eight of a kind", x.plan(), 0);
        e.order("eight of a kind", x, 0, 1, 2, 3, 4, 5, 6, 7);
        LinenTunnel y = heats(3, 0, 3, 0);
        e.is("two heats: one step is needed, from either", y.plan(), 1);
        e.order("two heats", y, 0, 2, 1, 3);
        LinenTunnel z = heats(0, 3, 1, 3, 0);
        e.is("heats 0, 1, 0, 3, 3 cost as little as 0, 0, 1, 3, 3", z.plan(), 1);
        e.order("0, 1, .. costs more, 0, 2, 1, .. too", z, 0, 2, 4, 1, 3);
        LinenTunnel w = colours(1, 1, 0);
        w.swap(0, 2);
        e.is("the least alone may be first", w.plan(), 0);
        e.order("the least alone may be first", w, 2, 0, 1);
    }

    private void planTellsEmpties() {
        e.sentence("Promise 18", "its EMPTIES");
        LinenTunnel x = heats(0, 2);
        e.is("of heats 0, 2", x.plan(), 1);
        e.is("of its order", x.empties(), 1);
        LinenTunnel y = unlikeOnes();
        e.is("of three unlike kinds", y.plan(), 3);
        e.is("of its order", y.empties(), 3);
        e.order("2, 0, 1 would cost 3, too", y, 1, 0, 2);
    }

    private void planNot() {
        e.sentence("Promise 18", "NOT: more than 8 wait");
        LinenTunnel x = Houses.after(Houses.waiting(8));
        e.is("eight", x.plan(), 0);
        for (int n = 9; n <= 12; n++) {
            Consumer<LinenTunnel> house = Houses.waiting(n).andThen(y -> y.swap(0, 8));
            e.refuses(house, n + " wait", y -> y.plan(), NOT);
        }
        e.refuses(Houses::full, "twelve that could be better", y -> y.plan(), NOT);
        LinenTunnel z = Houses.after(Houses.waiting(9));
        z.undo();
        e.is("nine, and one is undone", z.plan(), 0);
    }

    // ---- 19: greedy

    private void greedyFirstStays() {
        e.sentence("Promise 19", "THE ORDER is made by the next one: the BATCH at its first place stays");
        e.is("of none", Houses.after(Houses::empty).greedy(), 0);
        LinenTunnel one = Houses.after(Houses.waiting(1));
        e.is("of one", one.greedy(), 0);
        e.order("of one", one, 0);
        for (int first = 0; first < 12; first++) {
            LinenTunnel x = Houses.after(Houses.waiting(12));
            x.swap(0, first);
            x.greedy();
            e.is("the first", x.at(0), first);
        }
        LinenTunnel y = colours(0, 2, 1);
        y.swap(0, 1);
        e.is("a dark one first, though it costs", y.greedy(), 2);
        e.order("a dark one first", y, 1, 2, 0);
    }

    private void greedyNext() {
        e.sentence("Promise 19", "then, again and again, of those left the one with the fewest EMPTIES behind the one ahead, of like ones the least number");
        LinenTunnel x = Houses.after(Houses.waiting(12));
        x.swap(0, 5);
        x.swap(3, 9);
        x.greedy();
        e.order("twelve of a kind", x, 5, 0, 1, 2, 3, 4, 6, 7, 8, 9, 10, 11);
        LinenTunnel y = colours(1, 0, 1, 2, 0, 2);
        y.greedy();
        e.order("colours 1, 0, 1, 2, 0, 2: a darker one costs none", y, 0, 2, 3, 5, 1, 4);
        LinenTunnel z = heats(0, 3, 2, 1, 0);
        z.greedy();
        e.order("heats 0, 3, 2, 1, 0", z, 0, 3, 2, 1, 4);
        LinenTunnel w = heats(2, 0, 1, 3);
        w.greedy();
        e.order("by the one ahead, not by the first", w, 0, 2, 1, 3);
    }

    private void greedyTellsEmpties() {
        e.sentence("Promise 19", "its EMPTIES");
        LinenTunnel x = colours(1, 0, 1, 2, 0, 2);
        e.is("of colours 1, 1, 2, 2, 0, 0", x.greedy(), 2);
        e.is("of its order", x.empties(), 2);
        LinenTunnel y = Houses.after(Houses::full);
        int told = y.greedy();
        e.is("of twelve", y.empties(), told);
        e.is("twice is as once", y.greedy(), told);
    }

    /** A batch of one piece for each colour told; their kinds differ in nothing else. */
    private static LinenTunnel colours(int... told) {
        LinenTunnel x = new LinenTunnel();
        for (int colour = 0; colour < 3; colour++) {
            x.kind(0, colour, false, 0, 0);
        }
        Houses.addBatches(x, told);
        return x;
    }

    private static LinenTunnel heats(int... told) {
        LinenTunnel x = new LinenTunnel();
        for (int heat = 0; heat < 4; heat++) {
            x.kind(heat, 0, false, 0, 0);
        }
        Houses.addBatches(x, told);
        return x;
    }

    /** A light foul one, a white foul one of another heat, a dark one that isn't foul. */
    private static LinenTunnel unlikeOnes() {
        LinenTunnel x = new LinenTunnel();
        x.kind(0, 1, true, 0, 0);
        x.kind(2, 0, true, 0, 0);
        x.kind(0, 2, false, 0, 0);
        Houses.addBatches(x, 0, 1, 2);
        return x;
    }
}
