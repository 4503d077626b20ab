/** Promises 1 to 10: a new object, kinds, pieces, chips, scans. */
public final class KindsAndPiecesTest {
    private static final int BAD = LinenTunnel.BAD, FULL = LinenTunnel.FULL, NOT = LinenTunnel.NOT;
    private static final int NONE = LinenTunnel.NONE;
    private static final Due due = new Due("KindsAndPiecesTest");

    public static void main(String[] args) {
        newObject();
        kinds();
        pieces();
        chips();
        lostAndAgain();
        tallies();
        scans();
        scanRefusals();
        hands();
        due.end();
    }

    private static void newObject() {
        LinenTunnel x = new LinenTunnel();
        int[] want = {0, 0, 0, 4, 2, 1, 0, 0};
        for (int what = 0; what < want.length; what++) {
            due.is("new: count(" + what + ")", x.count(what), want[what]);
        }
        for (int s = 0; s < 4; s++) {
            due.is("new: lose(" + s + ")", x.lose(s), -11);
        }
        for (int what = 0; what < 7; what++) {
            due.is("new: washed(" + what + ")", x.washed(what), 0);
        }
        due.is("new: at(0)", x.at(0), NONE);
        due.is("new: about(0, 0)", x.about(0, 0), BAD);
        due.is("new: run(0, 0)", x.run(0, 0), BAD);
        due.is("new: empties()", x.empties(), 0);
    }

    private static void kinds() {
        LinenTunnel x = new LinenTunnel();
        due.is("kind: heat -1", x.kind(-1, 0, false, 0, 0), BAD);
        due.is("kind: heat 4", x.kind(4, 0, false, 0, 0), BAD);
        due.is("kind: colour -1", x.kind(0, -1, false, 0, 0), BAD);
        due.is("kind: colour 3", x.kind(0, 3, false, 0, 0), BAD);
        due.is("kind: dry -1", x.kind(0, 0, false, -1, 0), BAD);
        due.is("kind: dry 10", x.kind(0, 0, false, 10, 0), BAD);
        due.is("kind: iron -1", x.kind(0, 0, false, 0, -1), BAD);
        due.is("kind: iron 10", x.kind(0, 0, false, 0, 10), BAD);
        due.is("kind: none of them came", x.count(0), 0);
        for (int k = 0; k < 8; k++) {
            due.is("kind " + k, x.kind(k % 4, k % 3, k % 2 == 1, 9, 9), k);
        }
        due.is("kind: BAD is ahead of FULL", x.kind(4, 0, false, 0, 0), BAD);
        due.is("kind: the ninth", x.kind(0, 0, false, 0, 0), FULL);
        due.is("kind: eight stand", x.count(0), 8);
    }

    private static void pieces() {
        LinenTunnel x = new LinenTunnel();
        due.is("piece: no kind", x.piece(0, 0, true), BAD);
        x.kind(0, 0, false, 0, 0);
        x.kind(0, 0, false, 0, 0);
        due.is("piece: kind -1", x.piece(-1, 0, true), BAD);
        due.is("piece: kind 2", x.piece(2, 0, true), BAD);
        due.is("piece: owner -1", x.piece(0, -1, true), BAD);
        due.is("piece: owner 6", x.piece(0, 6, true), BAD);
        for (int p = 0; p < 100; p++) {
            due.is("piece " + p, x.piece(p % 2, p % 6, p % 3 == 0), p);
        }
        due.is("piece: BAD is ahead of FULL", x.piece(2, 0, true), BAD);
        due.is("piece: the 101st", x.piece(0, 0, true), FULL);
        due.is("piece: 100 stand", x.count(1), 100);
        int[] want = {1, 5, 0, 0, 0, NONE};
        for (int what = 0; what < want.length; what++) {
            due.is("about(11, " + what + ")", x.about(11, what), want[what]);
        }
        due.is("about: chip of 99", x.about(99, 2), 1);
        due.is("about: piece -1", x.about(-1, 0), BAD);
        due.is("about: piece 100", x.about(100, 0), BAD);
        due.is("about: what -1", x.about(0, -1), BAD);
        due.is("about: what 6", x.about(0, 6), BAD);
    }

    private static void chips() {
        LinenTunnel x = onePiece();
        due.is("chip: off", x.chip(0, false), 1);
        due.is("chip: is off", x.about(0, 2), 0);
        due.is("chip: off again", x.chip(0, false), 1);
        due.is("chip: on", x.chip(0, true), 1);
        due.is("chip: is on", x.about(0, 2), 1);
        due.is("chip: piece 1", x.chip(1, true), BAD);
        due.is("chip: piece -1", x.chip(-1, true), BAD);
    }

    private static void lostAndAgain() {
        LinenTunnel x = onePiece();
        due.is("again: OUT", x.again(0), NOT);
        due.is("lost: OUT", x.lost(0), 4);
        due.is("lost: its place", x.about(0, 3), 4);
        due.is("again: LOST", x.again(0), NOT);
        due.is("hand: LOST", x.hand(0), NOT);
        due.is("lost: LOST", x.lost(0), 0);
        x.hand(0);
        due.is("again: SOILED", x.again(0), NOT);
        due.is("lost: SOILED", x.lost(0), 4);
        x.lost(0);
        x.hand(0);
        x.batch(0, -1, 1);
        due.is("lost: in a BATCH", x.lost(0), NOT);
        due.is("again: in a BATCH", x.again(0), NOT);
        due.is("lost: it stays in a BATCH", x.about(0, 3), 2);
        due.is("about: its BATCH", x.about(0, 5), 0);
        x.wash();
        due.is("about: CLEAN", x.about(0, 3), 3);
        due.is("about: no BATCH", x.about(0, 5), NONE);
        due.is("again: CLEAN", x.again(0), 1);
        due.is("again: SOILED then", x.about(0, 3), 1);
        due.is("again: washes stay", x.about(0, 4), 1);
        x.batch(0, -1, 1);
        x.wash();
        due.is("about: two washes", x.about(0, 4), 2);
        due.is("lost: CLEAN", x.lost(0), 4);
        due.is("lost: LOST is OUT", x.lost(0), 0);
        due.is("lost: piece 1", x.lost(1), BAD);
        due.is("lost: piece -1", x.lost(-1), BAD);
        due.is("again: piece 1", x.again(1), BAD);
        due.is("again: piece -1", x.again(-1), BAD);
    }

    private static void tallies() {
        LinenTunnel x = new LinenTunnel();
        x.kind(0, 0, false, 0, 0);
        x.kind(1, 0, false, 0, 0);
        for (int p = 0; p < 12; p++) {
            x.piece(p % 2, p % 3, true);
        }
        x.hand(0);
        x.hand(6);
        x.hand(3);
        x.lost(5);
        due.is("pieces: all OUT", x.pieces(-1, -1, 0), 8);
        due.is("pieces: SOILED", x.pieces(-1, -1, 1), 3);
        due.is("pieces: SOILED of owner 0", x.pieces(0, -1, 1), 3);
        due.is("pieces: SOILED of kind 0", x.pieces(-1, 0, 1), 2);
        due.is("pieces: SOILED of both", x.pieces(0, 1, 1), 1);
        due.is("pieces: of another owner", x.pieces(1, 0, 1), 0);
        due.is("pieces: LOST", x.pieces(2, 1, 4), 1);
        due.is("pieces: owner 5", x.pieces(5, -1, 0), 0);
        due.is("pieces: owner -2", x.pieces(-2, -1, 0), BAD);
        due.is("pieces: owner 6", x.pieces(6, -1, 0), BAD);
        due.is("pieces: kind -2", x.pieces(-1, -2, 0), BAD);
        due.is("pieces: kind 2", x.pieces(-1, 2, 0), BAD);
        due.is("pieces: place -1", x.pieces(-1, -1, -1), BAD);
        due.is("pieces: place 5", x.pieces(-1, -1, 5), BAD);
    }

    private static void scans() {
        LinenTunnel x = new LinenTunnel();
        x.kind(0, 0, false, 0, 0);
        for (int p = 0; p < 6; p++) {
            x.piece(0, 0, p != 1);
        }
        x.lost(2);
        x.hand(3);
        x.sheet(1, 0, 10);
        int[] told = {0, 0, 1, 2, 3, 4, 6, -1, 5, 4};
        for (int i = 0; i < told.length; i++) {
            x.put(1, 0, i, told[i]);
        }
        due.is("scan: no items", x.scan(1, 0), 0);
        due.is("scan: the first eight", x.scan(1, 8), 2);
        int[] want = {1, 0, 4, 1, 1, 0};
        for (int p = 0; p < want.length; p++) {
            due.is("scan: place of " + p, x.about(p, 3), want[p]);
        }
        due.is("scan: all ten", x.scan(1, 10), 1);
        x.chip(1, true);
        due.is("scan: a chip that can be read now", x.scan(1, 10), 1);
        due.is("scan: nothing is left", x.scan(1, 10), 0);
    }

    private static void scanRefusals() {
        LinenTunnel x = onePiece();
        due.is("scan: LOST SHEET", x.scan(0, 0), -11);
        due.is("scan: told as 1", x.count(6), 1);
        x.sheet(0, 2, 3);
        due.is("scan: one too many", x.scan(0, 4), -12);
        due.is("scan: told as 2", x.count(6), 2);
        due.is("scan: a finding takes nothing in", x.about(0, 3), 0);
        due.is("scan: SHEET -1", x.scan(-1, 0), BAD);
        due.is("scan: SHEET 4", x.scan(4, 0), BAD);
        due.is("scan: n -1", x.scan(0, -1), BAD);
        due.is("scan: n 61", x.scan(0, 61), BAD);
        due.is("scan: n 61 of a LOST SHEET", x.scan(1, 61), BAD);
        due.is("scan: n 60 of a LOST SHEET", x.scan(1, 60), -11);
        x.sheet(0, 2, 60);
        due.is("scan: all 60 items are piece 0", x.scan(0, 60), 1);
    }

    private static void hands() {
        LinenTunnel x = onePiece();
        x.chip(0, false);
        due.is("hand: without a chip", x.hand(0), 1);
        due.is("hand: SOILED then", x.about(0, 3), 1);
        due.is("hand: SOILED", x.hand(0), NOT);
        x.batch(0, -1, 1);
        due.is("hand: in a BATCH", x.hand(0), NOT);
        x.wash();
        due.is("hand: CLEAN", x.hand(0), NOT);
        due.is("hand: piece 1", x.hand(1), BAD);
        due.is("hand: piece -1", x.hand(-1), BAD);
    }

    private static LinenTunnel onePiece() {
        LinenTunnel x = new LinenTunnel();
        x.kind(0, 0, false, 0, 0);
        x.piece(0, 0, true);
        return x;
    }
}
