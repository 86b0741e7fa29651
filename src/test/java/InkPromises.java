/** Promises 6 to 10: lines, gaps, inks, pieces, loose dots. */
public final class InkPromises {
    private static final Checks C = new Checks();
    private static final int BAD = Checks.BAD, NULL = Checks.NULL, PLACE = Checks.PLACE, DOT = Checks.DOT;
    private static final int LEAST = Checks.LEAST, MOST = Checks.MOST;

    public static void main(String[] args) {
        promise6();
        promise6Pieces();
        promise7();
        promise8();
        fortyInks();
        promise9();
        dotsBelong();
        promise10();
        C.end("InkPromises");
    }

    private static void promise6() {
        PenLines x = new PenLines();
        x.sheet(0, 2, 80);
        x.sheet(1, 0, 5);
        C.all("6: bad", BAD, x.line(-1, 0, 1), x.line(8, 0, 1), x.line(0, 0, 0), x.line(0, 0, 41),
                x.line(0, 0, -1), x.line(0, 0, LEAST), x.line(0, 0, MOST), x.line(5, 0, 41), x.line(0, -1, 41));
        C.all("6: null", NULL, x.line(2, 0, 1), x.line(2, -1, 1), x.line(7, 0, 40));
        C.all("6: place", PLACE, x.line(1, -1, 1), x.line(1, 4, 1), x.line(1, 5, 1), x.line(1, 0, 3), x.line(1, 2, 2),
                x.line(0, 1, 40), x.line(0, MOST, 1), x.line(0, LEAST, 40), x.line(0, MOST - 1, 40));
        C.due("6: nothing came of these", x.count(1), 0);
        C.due("6: the most pieces", x.line(0, 0, 40), 1);
        C.due("6: all of them", x.ink(0, 0), 40);
        C.due("6: from i on, to the end", x.line(1, 3, 1), 1);
        C.due("6: in place of what was there", x.ink(0, 0), 1);
    }

    private static void promise6Pieces() {
        PenLines x = new PenLines();
        C.due("6: least x and shape", Checks.write(x, 0, 0), 1);
        C.due("6: greatest x and shape", Checks.write(x, 2000, 11), 1);
        C.due("6: a dot", Checks.write(x, 2000, 12), 0);
        Checks.write(x, 1, 2, 3, 4);
        C.all("6: one is not as told", BAD, Checks.write(x, 2001, 0), Checks.write(x, -1, 0), Checks.write(x, 0, 13),
                Checks.write(x, 0, -1), Checks.write(x, LEAST, 0), Checks.write(x, 0, MOST), Checks.write(x, 0, 0, 0, 13));
        C.due("6: the line stays then", x.piece(0, 1, 0), 3);
        C.due("6: three inks", Checks.write(x, 0, 1, 30, 1, 61, 1, 92, 1), 3);
        x.set(7, 0, 50);
        C.due("6: what is set later is not in the line", x.piece(0, 0, 0), 0);
        C.due("6: as they were written, not by x", Checks.write(x, 100, 1, 50, 2, 60, 3, 91, 4), 2);
        C.due("6: an ink goes on to the left", x.ink(0, 0), 3);
        C.due("6: dots part nothing", Checks.write(x, 0, 1, 500, DOT, 20, 2), 1);
        C.due("6: the piece ahead is the one that is no dot", Checks.write(x, 0, 1, 31, DOT, 40, 2), 2);
    }

    private static void promise7() {
        PenLines x = new PenLines();
        C.all("7: bad", BAD, x.gap(0), x.gap(101), x.gap(-1), x.gap(LEAST), x.gap(MOST));
        C.due("7: at first", x.gap(1), 30);
        C.due("7: what it was", x.gap(100), 1);
        C.due("7: the same again", x.gap(100), 100);
        C.due("7: to 30", x.gap(30), 100);
        C.due("7: more than the gap parts", Checks.write(x, 0, 0, 30, 0, 61, 0, 1000, 0, 1101, 0, 1201, 0), 5);
        x.gap(29);
        C.due("7: parted anew, less", x.count(1), 6);
        x.gap(31);
        C.due("7: parted anew, more", x.count(1), 4);
        x.gap(100);
        C.due("7: parted anew, most", x.count(1), 3);
        x.gap(0);
        C.due("7: what is BAD changes nothing", x.count(1), 3);
        C.due("7: nor the gap", x.gap(5), 100);
        Checks.write(x, 0, 0, 10, 0, 6, DOT, 20, 0, 26, DOT);
        C.due("7: three inks", x.count(1), 3);
        C.due("7: a dot is parted anew, too", x.loose(), 1);
        C.due("7: first it is of the second ink", x.ink(1, 2), 1);
        x.gap(10);
        C.due("7: then of the one ink", x.ink(0, 2), 1);
        C.due("7: joined anew", x.piece(0, 1, 2), 1);
    }

    private static void promise8() {
        PenLines x = new PenLines();
        C.all("8: no ink yet", BAD, x.ink(0, 0), x.ink(0, 1), x.ink(0, 2));
        Checks.write(x, 7, DOT, 0, 1, 10, 2, 5, DOT, 60, 3, 61, DOT, 70, 4, 75, 5);
        C.due("8: two inks", x.count(1), 2);
        C.due("8: pieces of the first", x.ink(0, 0), 2);
        C.due("8: pieces of the second", x.ink(1, 0), 3);
        C.due("8: place of the first", x.ink(0, 1), 0);
        C.due("8: place of the second, without dots", x.ink(1, 1), 2);
        C.due("8: dots of the first", x.ink(0, 2), 2);
        C.due("8: dots of the second", x.ink(1, 2), 1);
        C.all("8: bad", BAD, x.ink(-1, 0), x.ink(2, 0), x.ink(LEAST, 0), x.ink(MOST, 0), x.ink(0, -1), x.ink(0, 3),
                x.ink(0, LEAST), x.ink(0, MOST));
    }

    private static void fortyInks() {
        PenLines x = new PenLines();
        x.gap(1);
        x.sheet(0, 1, 80);
        for (int k = 0; k < 40; k++) {
            x.set(0, 2 * k, 50 * k);
            x.set(0, 2 * k + 1, k % 12);
        }
        C.due("8: forty inks", x.line(0, 0, 40), 40);
        C.due("8: the last one", x.ink(39, 0), 1);
        C.due("8: its place", x.ink(39, 1), 39);
        C.due("8: its piece", x.piece(39, 0, 0), 1950);
        C.due("8: its shape", x.piece(39, 0, 1), 3);
        C.due("8: no more", x.ink(40, 0), BAD);
        x.line(0, 0, 2);
        C.due("8: two of them", x.ink(2, 0), BAD);
    }

    private static void promise9() {
        PenLines x = new PenLines();
        C.due("9: no ink yet", x.piece(0, 0, 0), BAD);
        Checks.write(x, 0, 1, 10, DOT, 10, 2, 60, 3, 59, 4, 70, DOT, 62, 11);
        C.due("9: x", x.piece(0, 1, 0), 10);
        C.due("9: shape", x.piece(0, 1, 1), 2);
        C.due("9: dots", x.piece(0, 1, 2), 1);
        C.due("9: no dots", x.piece(0, 0, 2), 0);
        C.due("9: x in the second", x.piece(1, 1, 0), 59);
        C.due("9: shape in the second", x.piece(1, 2, 1), 11);
        C.due("9: a dot behind the end", x.loose(), 1);
        C.all("9: bad", BAD, x.piece(-1, 0, 0), x.piece(2, 0, 0), x.piece(0, 2, 0), x.piece(1, 3, 0), x.piece(0, -1, 0),
                x.piece(0, 0, 3), x.piece(0, 0, -1), x.piece(0, MOST, 0), x.piece(0, LEAST, 0), x.piece(MOST, 0, 0));
    }

    private static void dotsBelong() {
        PenLines x = new PenLines();
        Checks.write(x, 100, 1, 110, 1, 95, DOT, 115, DOT, 94, DOT, 116, DOT);
        C.due("8: five to both sides", x.ink(0, 2), 2);
        C.due("9: the left one", x.piece(0, 0, 2), 1);
        C.due("9: the right one", x.piece(0, 1, 2), 1);
        C.due("10: six is loose", x.loose(), 2);
        Checks.write(x, 100, 1, 200, 1, 120, 2, 195, DOT);
        C.due("8: parted, and back", x.count(1), 2);
        C.due("8: from the least x, which is not the first", x.ink(1, 2), 1);
        Checks.write(x, 150, 1, 200, 1, 100, 1, 95, DOT, 205, DOT, 94, DOT, 206, DOT);
        C.due("8: parted in two", x.count(1), 2);
        C.due("8: from the least to the greatest, in any order", x.ink(1, 2), 2);
        Checks.write(x, 0, 1, 40, 1, 0, 1, 38, DOT, 3, DOT, 22, DOT);
        C.due("8: the first ink of several", x.ink(0, 2), 1);
        C.due("8: the second one has what is left", x.ink(1, 2), 2);
        C.due("9: at 22 the first piece is nearest", x.piece(1, 0, 2), 2);
        Checks.write(x, 10, 1, 20, 1, 30, 1, 15, DOT, 25, DOT, 26, DOT, 20, DOT);
        C.due("9: of several as near the first", x.piece(0, 0, 2), 1);
        C.due("9: so the second", x.piece(0, 1, 2), 2);
        C.due("9: the nearest", x.piece(0, 2, 2), 1);
        Checks.write(x, 10, 1, 20, 1, 10, 2, 11, DOT);
        C.due("9: of the same x the first", x.piece(0, 0, 2), 1);
        C.due("9: not the later", x.piece(0, 2, 2), 0);
        x.gap(1);
        Checks.write(x, 10, 1, 12, 1, 12, DOT);
        C.due("9: the first ink, though a piece of the next is nearer", x.piece(0, 0, 2), 1);
        C.due("8: so the next has none", x.ink(1, 2), 0);
        Checks.write(x, 12, DOT, 10, 1);
        C.due("9: a dot may come ahead of its ink", x.piece(0, 0, 2), 1);
    }

    private static void promise10() {
        PenLines x = new PenLines();
        C.due("10: of an empty line", x.loose(), 0);
        C.due("10: a line of dots has no inks", Checks.write(x, 5, DOT, 6, DOT, 2000, DOT), 0);
        C.due("10: all are loose", x.loose(), 3);
        C.due("10: all are dots", x.count(2), 3);
        Checks.write(x, 0, 1, 5, DOT, 6, DOT, 2000, DOT);
        C.due("10: some are", x.loose(), 2);
        C.due("10: dots in all", x.count(2), 3);
        Checks.write(x, 0, 1);
        C.due("10: none are", x.loose(), 0);
    }
}
