/** Promises 6 to 10, edge by edge: lines, gaps, inks, pieces, dots. */
public final class InkEdges {
    private static final Checks C = new Checks();
    private static final int BAD = Checks.BAD, NULL = Checks.NULL, PLACE = Checks.PLACE, DOT = Checks.DOT;
    private static final int LEAST = Checks.LEAST, MOST = Checks.MOST;

    public static void main(String[] args) {
        promise6();
        promise6Places();
        promise6AsTold();
        promise6InPlace();
        promise6Order();
        promise7();
        promise7Apart();
        promise8();
        promise8Begins();
        promise8Reach();
        promise8First();
        promise9();
        promise9Nearest();
        promise10();
        C.end("InkEdges");
    }

    /** PIECES, 1 to 40. */
    private static void promise6() {
        PenLines x = new PenLines();
        x.sheet(0, 2, 80);
        x.sheet(7, 2, 80);
        C.due("6: one piece", x.line(0, 0, 1), 1);
        C.due("6: forty pieces", x.line(0, 0, 40), 1);
        C.due("6: they are forty", x.ink(0, 0), 40);
        C.due("6: forty pieces of sheet 7", x.line(7, 0, 40), 1);
        C.all("6: pieces that are too few, or too many", BAD, x.line(0, 0, 0), x.line(0, 0, 41), x.line(0, 0, -1),
                x.line(0, 0, LEAST), x.line(0, 0, MOST), x.line(0, 0, 1 << 30), x.line(0, 0, (1 << 31) + 1));
        C.all("6: sheets that are none", BAD, x.line(-1, 0, 1), x.line(8, 0, 1), x.line(LEAST, 0, 1), x.line(MOST, 0, 1));
        C.due("6: the line stays", x.ink(0, 0), 40);
    }

    private static void promise6Places() {
        PenLines x = new PenLines();
        x.sheet(0, 2, 80);
        x.sheet(1, 2, 0);
        x.sheet(2, 2, 1);
        x.sheet(3, 2, 2);
        C.all("6: to the end", 1, x.line(0, 78, 1), x.line(0, 2, 39), x.line(0, 0, 40), x.line(3, 0, 1));
        C.all("6: beyond the end", PLACE, x.line(0, 79, 1), x.line(0, 80, 1), x.line(0, 3, 39), x.line(0, 1, 40),
                x.line(1, 0, 1), x.line(2, 0, 1), x.line(3, 1, 1), x.line(3, 0, 2), x.line(3, 2, 1), x.line(0, MOST, 1),
                x.line(0, MOST - 1, 40), x.line(0, MOST - 79, 40));
        C.all("6: below 0", PLACE, x.line(0, -1, 1), x.line(0, -2, 40), x.line(0, LEAST, 1), x.line(1, -1, 1));
        C.due("6: from an odd place", x.line(0, 1, 39), 1);
        Checks.fill(x, 0, 1, 2, 3, 4, 5);
        x.line(0, 1, 2);
        C.due("6: x from there on", x.piece(0, 0, 0) * 10 + x.piece(0, 1, 0), 24);
        C.due("6: shape from there on", x.piece(0, 0, 1) * 10 + x.piece(0, 1, 1), 35);
    }

    /** Each a place x (0 to 2000) and a shape: 0 to 11, or a DOT (12). */
    private static void promise6AsTold() {
        PenLines x = new PenLines();
        x.sheet(0, 2, 80);
        int[] firstMiddleLast = {0, 19, 39};
        for (int k : firstMiddleLast) {
            C.due("6: x 0 of piece " + k, x.set(0, 2 * k, 0) + x.line(0, 0, 40), 1);
            C.due("6: x -1 of piece " + k, x.set(0, 2 * k, -1) + 1 + x.line(0, 0, 40), BAD);
            C.due("6: x 2001 of piece " + k, x.set(0, 2 * k, 2001) - 2001 + x.line(0, 0, 40), BAD);
            C.due("6: least x of piece " + k, x.set(0, 2 * k, LEAST) - LEAST + x.line(0, 0, 40), BAD);
            C.due("6: most x of piece " + k, x.set(0, 2 * k, MOST) - MOST + x.line(0, 0, 40), BAD);
            x.set(0, 2 * k, 2000);
            C.due("6: x 2000 of piece " + k, x.line(0, 0, 40), k == 0 ? 1 : 2);
            x.set(0, 2 * k, 0);
            C.due("6: shape 11 of piece " + k, x.set(0, 2 * k + 1, 11) - 11 + x.line(0, 0, 40), 1);
            C.due("6: a dot for piece " + k, x.set(0, 2 * k + 1, DOT) - DOT + x.line(0, 0, 40), 1);
            C.due("6: it is a dot", x.count(2), 1);
            C.due("6: shape 13 of piece " + k, x.set(0, 2 * k + 1, 13) - 13 + x.line(0, 0, 40), BAD);
            C.due("6: shape -1 of piece " + k, x.set(0, 2 * k + 1, -1) + 1 + x.line(0, 0, 40), BAD);
            C.due("6: most of a shape of piece " + k, x.set(0, 2 * k + 1, MOST) - MOST + x.line(0, 0, 40), BAD);
            C.due("6: shape 0 of piece " + k, x.set(0, 2 * k + 1, 0) + x.line(0, 0, 40), 1);
        }
        Checks.fill(x, 0, 2001, 13, 4, 5, 6, 7, -1, -1);
        C.due("6: only the pieces told are looked at", x.line(0, 2, 2), 1);
        C.due("6: the one behind them, too", x.line(0, 2, 3), BAD);
        C.due("6: the one ahead of them, too", x.line(0, 0, 3), BAD);
        C.due("6: the line stays then", x.piece(0, 1, 0), 6);
    }

    private static void promise6InPlace() {
        PenLines x = new PenLines();
        C.due("6: three inks", Checks.write(x, 0, 1, 100, 2, 200, 3, 300, DOT), 3);
        C.due("6: one ink in place of them", Checks.write(x, 7, 4), 1);
        C.due("6: no dots of the line ahead", x.count(2), 0);
        C.due("6: no inks of it", x.ink(1, 0), BAD);
        C.due("6: only dots in place of it", Checks.write(x, 7, DOT, 8, DOT), 0);
        C.due("6: no inks in a line without pieces but dots", x.count(1), 0);
        C.due("6: nor any to ask", x.ink(0, 0), BAD);
        x.sheet(1, 0, 4);
        Checks.fill(x, 1, 127, 11, 100, 0);
        C.due("6: a line of bytes", x.line(1, 0, 2), 1);
        C.due("6: x of bytes", x.piece(0, 0, 0), 127);
        x.sheet(2, 1, 4);
        Checks.fill(x, 2, 2000, 11, 1900, 0);
        C.due("6: a line of shorts", x.line(2, 0, 2), 1);
        C.due("6: x of shorts", x.piece(0, 0, 0), 2000);
        x.set(2, 0, 3);
        C.due("6: an item set behind it leaves the line", x.piece(0, 0, 0), 2000);
        x.drop(2);
        x.gap(30);
        C.due("6: so does a sheet that is dropped, when it is parted anew", x.piece(0, 0, 0), 2000);
    }

    /** BAD: SHEET, n; NULL; PLACE; then BAD: one is not as told. */
    private static void promise6Order() {
        PenLines x = new PenLines();
        x.sheet(0, 2, 4);
        Checks.fill(x, 0, -1, -1, -1, -1);
        C.all("6: BAD goes ahead of NULL and PLACE", BAD, x.line(1, -1, 0), x.line(1, 0, 41), x.line(8, -1, 1), x.line(0, -1, 41));
        C.all("6: NULL goes ahead of PLACE", NULL, x.line(1, -1, 1), x.line(7, 80, 40));
        C.all("6: PLACE goes ahead of one that is not as told", PLACE, x.line(0, 0, 3), x.line(0, 3, 1), x.line(0, -1, 1));
        C.due("6: status of PLACE", x.status(), 2);
        C.all("6: one is not as told", BAD, x.line(0, 0, 2), x.line(0, 2, 1));
        C.due("6: status stays", x.status(), 2);
    }

    /** GAP (1 to 100, at first 30). */
    private static void promise7() {
        PenLines x = new PenLines();
        C.all("7: gaps that are none", BAD, x.gap(0), x.gap(101), x.gap(-1), x.gap(LEAST), x.gap(MOST));
        C.due("7: at first, least", x.gap(1), 30);
        C.due("7: least, most", x.gap(100), 1);
        C.due("7: BAD leaves it", x.gap(101), BAD);
        C.due("7: what it was", x.gap(2), 100);
        C.due("7: an empty line stays empty", x.count(1), 0);
        Checks.write(x, 0, 0, 3, 0);
        C.due("7: it is kept for later lines", x.count(1), 2);
        C.due("7: and is told by them unchanged", x.gap(2), 2);
    }

    /** Above that of the one ahead by more than GAP. */
    private static void promise7Apart() {
        int[] gaps = {1, 2, 30, 99, 100};
        for (int gap : gaps) {
            PenLines x = new PenLines();
            x.gap(gap);
            C.due("7: just the gap " + gap, Checks.write(x, 500, 0, 500 + gap, 0), 1);
            C.due("7: one more than the gap " + gap, Checks.write(x, 500, 0, 501 + gap, 0), 2);
            if (gap > 1) {
                x.gap(gap - 1);
                C.due("7: parted anew by one less than " + gap, Checks.write(x, 500, 0, 500 + gap, 0), 2);
            }
        }
        PenLines x = new PenLines();
        Checks.write(x, 0, 0, 30, 0, 61, 0);
        C.due("7: thirty and one more, at first", x.count(1), 2);
        x.gap(31);
        C.due("7: parted anew into one", x.count(1), 1);
        C.due("7: all pieces are of it", x.ink(0, 0), 3);
        x.gap(29);
        C.due("7: parted anew into three", x.count(1), 3);
        C.due("7: the last of them", x.ink(2, 1), 2);
        x.gap(101);
        C.due("7: what is BAD parts nothing", x.count(1), 3);
    }

    private static void promise8() {
        PenLines x = new PenLines();
        C.all("8: no ink in an empty line", BAD, x.ink(0, 0), x.ink(-1, 0));
        Checks.write(x, 0, DOT, 0, 1, 50, 2, 60, 3, 60, DOT, 61, DOT, 120, 4);
        C.due("8: ink 0", x.ink(0, 0), 1);
        C.due("8: ink 2 of 3", x.ink(2, 0), 1);
        C.all("8: inks that are none", BAD, x.ink(-1, 0), x.ink(3, 0), x.ink(LEAST, 0), x.ink(MOST, 0), x.ink(40, 2));
        C.all("8: what is none", BAD, x.ink(0, -1), x.ink(0, 3), x.ink(2, LEAST), x.ink(2, MOST));
        C.due("8: pieces, no dots among them", x.ink(1, 0), 2);
        C.due("8: place of the first among those that are no dots", x.ink(0, 1), 0);
        C.due("8: of the second", x.ink(1, 1), 1);
        C.due("8: of the third", x.ink(2, 1), 3);
        C.due("8: dots of the first", x.ink(0, 2), 1);
        C.due("8: dots of the second", x.ink(1, 2), 2);
        C.due("8: dots of the third", x.ink(2, 2), 0);
    }

    /** A new INK begins where one's x is above that of the one ahead of it by more than GAP. */
    private static void promise8Begins() {
        PenLines x = new PenLines();
        C.due("8: the same x", Checks.write(x, 70, 0, 70, 0), 1);
        C.due("8: far to the left", Checks.write(x, 2000, 0, 0, 0), 1);
        C.due("8: far to the right", Checks.write(x, 0, 0, 2000, 0), 2);
        C.due("8: to the left, and 30 to the right", Checks.write(x, 100, 0, 50, 0, 80, 0), 1);
        C.due("8: to the left, and 31 to the right, which is not above the first", Checks.write(x, 100, 0, 50, 0, 81, 0), 2);
        C.due("8: a dot in between is not the one ahead", Checks.write(x, 0, 0, 20, DOT, 31, 0), 2);
        C.due("8: nor does it begin an ink", Checks.write(x, 0, 0, 2000, DOT, 30, 0), 1);
        C.due("8: a dot ahead of all is not the one ahead", Checks.write(x, 0, DOT, 31, 0, 61, 0), 1);
        C.due("8: many small steps", Checks.write(x, 0, 0, 30, 0, 60, 0, 90, 0, 120, 0), 1);
    }

    /** From the least to the greatest x of whose PIECES, 5 more to both sides. */
    private static void promise8Reach() {
        int[] at = {94, 95, 100, 110, 120, 125, 126};
        int[] joined = {0, 1, 1, 1, 1, 1, 0};
        for (int k = 0; k < at.length; k++) {
            PenLines x = new PenLines();
            Checks.write(x, 110, 0, 100, 0, 120, 0, at[k], DOT);
            C.due("8: a dot at " + at[k] + " of 100 to 120", x.ink(0, 2), joined[k]);
            C.due("10: a dot at " + at[k] + " is loose", x.loose(), 1 - joined[k]);
            Checks.write(x, at[k], DOT, 120, 0, 100, 0, 110, 0);
            C.due("8: ahead of its ink, at " + at[k], x.ink(0, 2), joined[k]);
        }
        PenLines x = new PenLines();
        Checks.write(x, 5, 0, 0, DOT, 10, DOT, 11, DOT);
        C.due("8: one piece, 5 to both sides", x.ink(0, 2), 2);
        Checks.write(x, 1995, 0, 2000, DOT, 1990, DOT, 1989, DOT);
        C.due("8: one piece at the far end", x.ink(0, 2), 2);
        Checks.write(x, 0, 0, 0, DOT, 0, DOT, 5, DOT, 6, DOT);
        C.due("8: one piece at 0", x.ink(0, 2), 3);
    }

    /** The first INK. */
    private static void promise8First() {
        PenLines x = new PenLines();
        Checks.write(x, 100, 0, 200, 0, 90, 0, 105, DOT, 106, DOT, 95, DOT, 94, DOT);
        C.due("8: the second ink goes over the first", x.count(1), 2);
        C.due("8: of two inks the first", x.ink(0, 2), 2);
        C.due("8: where the first ends, the second", x.ink(1, 2), 2);
        x.gap(5);
        Checks.write(x, 100, 0, 106, 0, 105, DOT, 106, DOT);
        C.due("8: the first, though the second is nearer", x.ink(0, 2), 1);
        C.due("8: the second, where the first does not reach", x.ink(1, 2), 1);
        Checks.write(x, 0, 0, 10, 0, 20, 0, 30, 0, 25, DOT, 26, DOT, 15, DOT, 5, DOT);
        C.due("8: the third of four", x.ink(2, 2), 1);
        C.due("8: the last of four", x.ink(3, 2), 1);
        C.due("8: the second of four", x.ink(1, 2), 1);
        C.due("8: the first of four", x.ink(0, 2), 1);
    }

    private static void promise9() {
        PenLines x = new PenLines();
        C.due("9: no ink in an empty line", x.piece(0, 0, 0), BAD);
        Checks.write(x, 2000, 11, 0, 0, 50, 5);
        C.due("9: two inks", x.count(1), 2);
        C.due("9: most x", x.piece(0, 0, 0), 2000);
        C.due("9: most shape", x.piece(0, 0, 1), 11);
        C.due("9: least x", x.piece(0, 1, 0), 0);
        C.due("9: least shape", x.piece(0, 1, 1), 0);
        C.due("9: of the second", x.piece(1, 0, 0), 50);
        C.all("9: pieces that are none", BAD, x.piece(0, -1, 0), x.piece(0, 2, 0), x.piece(1, 1, 0), x.piece(0, LEAST, 0),
                x.piece(0, MOST, 0), x.piece(1, -1, 2));
        C.all("9: inks that are none", BAD, x.piece(-1, 0, 0), x.piece(2, 0, 0), x.piece(LEAST, 0, 0), x.piece(MOST, 0, 0));
        C.all("9: what is none", BAD, x.piece(0, 0, -1), x.piece(0, 0, 3), x.piece(0, 0, LEAST), x.piece(0, 0, MOST));
        x.sheet(0, 2, 80);
        x.line(0, 0, 40);
        C.due("9: the last of forty", x.piece(0, 39, 0), 0);
        C.due("9: behind the last of forty", x.piece(0, 40, 0), BAD);
    }

    private static void dotsOn(String what, PenLines x, int ink, int... due) {
        for (int k = 0; k < due.length; k++) {
            C.due("9: " + what + ", piece " + k, x.piece(ink, k, 2), due[k]);
        }
    }

    /** JOINED to that PIECE of it whose x is nearest to its own (of several the first). */
    private static void promise9Nearest() {
        PenLines x = new PenLines();
        Checks.write(x, 10, 0, 20, 0, 30, 0, 14, DOT, 15, DOT, 16, DOT, 24, DOT, 25, DOT, 26, DOT);
        dotsOn("the nearest, in between the first", x, 0, 2, 3, 1);
        Checks.write(x, 30, 0, 20, 0, 10, 0, 14, DOT, 15, DOT, 16, DOT, 24, DOT, 25, DOT, 26, DOT);
        dotsOn("the nearest, in between the first as they were written", x, 0, 2, 3, 1);
        Checks.write(x, 10, 0, 10, 0, 20, 0, 20, 0, 5, DOT, 25, DOT, 10, DOT, 15, DOT);
        dotsOn("of the same x the first", x, 0, 3, 0, 1, 0);
        Checks.write(x, 0, DOT, 0, 0, 0, DOT, 0, DOT);
        dotsOn("three dots on one piece", x, 0, 3);
        Checks.write(x, 20, 0, 50, 0, 27, 0, 58, 0, 54, DOT);
        dotsOn("the greatest of the line is another ink's", x, 0, 0, 1, 0);
        x.gap(5);
        Checks.write(x, 20, 0, 26, 0, 25, DOT);
        dotsOn("of its own ink, though one of the next is nearer", x, 0, 1);
        dotsOn("so the next has none", x, 1, 0);
        x.gap(6);
        dotsOn("parted anew into one ink, the nearest", x, 0, 0, 1);
        Checks.write(x, 20, 0, 26, 0);
        dotsOn("a line of no dots", x, 0, 0, 0);
    }

    private static void promise10() {
        PenLines x = new PenLines();
        C.due("10: none in an empty line", x.loose(), 0);
        x.sheet(0, 2, 80);
        for (int k = 0; k < 40; k++) {
            x.set(0, 2 * k + 1, DOT);
        }
        C.due("10: forty dots have no ink", x.line(0, 0, 40), 0);
        C.due("10: forty are loose", x.loose(), 40);
        C.due("10: of forty", x.count(2), 40);
        x.set(0, 1, 0);
        x.line(0, 0, 40);
        C.due("10: none is loose", x.loose(), 0);
        C.due("10: of thirty-nine", x.count(2), 39);
        C.due("10: all are joined", x.piece(0, 0, 2), 39);
        x.gap(25);
        C.due("10: two inks", Checks.write(x, 5, 0, 10, 0, 16, DOT, 15, DOT, 36, 0), 2);
        C.due("10: one dot is loose", x.loose(), 1);
        x.gap(26);
        C.due("10: one ink reaches over it", x.loose(), 0);
        C.due("10: not loose, so joined", x.ink(0, 2), 2);
    }
}
