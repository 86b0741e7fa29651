/** Promises 1 to 5 and 27, edge by edge: the last value that is taken and the first that is refused, on both sides. */
public final class SheetEdges {
    private static final Checks C = new Checks();
    private static final int BAD = Checks.BAD, NULL = Checks.NULL, PLACE = Checks.PLACE, KIND = Checks.KIND;
    private static final int SIZE = Checks.SIZE, STORE = Checks.STORE, LEAST = Checks.LEAST, MOST = Checks.MOST;
    private static final int BYTES = 0, SHORTS = 1, INTS = 2;

    public static void main(String[] args) {
        promise1();
        promise1Apart();
        promise2();
        promise2InPlace();
        promise3Bytes();
        promise3Shorts();
        promise3Ints();
        promise3Kept();
        promise3Places();
        promise4();
        promise4Places();
        promise4Kept();
        promise4Order();
        promise5();
        promise27ByCall();
        promise27PassedOver();
        C.end("SheetEdges");
    }

    /** No SHEETS, an empty LINE, no FORMS, no PAIRS, an empty LIST. */
    private static void promise1() {
        for (int sheet = 0; sheet < 8; sheet++) {
            PenLines x = new PenLines();
            C.due("1: no sheet " + sheet + " to set", x.set(sheet, 0, 0), NULL);
            C.due("1: no sheet " + sheet + " to copy from", x.copy(sheet, 0, sheet, 0, 0), NULL);
            C.due("1: no sheet " + sheet + " to drop", x.drop(sheet), NULL);
            C.due("1: no sheet " + sheet + " for a line", x.line(sheet, 0, 1), NULL);
        }
        PenLines x = new PenLines();
        C.due("1: no sheets", x.count(0), 0);
        C.due("1: no inks in an empty line", x.count(1), 0);
        C.due("1: no dots in an empty line", x.count(2), 0);
        C.due("1: none of them loose", x.loose(), 0);
        C.due("1: an empty line has no ink to ask", x.ask(0, 0), BAD);
        C.due("1: no forms", x.count(3), 0);
        for (int letter = 0; letter < 26; letter++) {
            C.due("1: no form of letter " + letter, x.seen(letter, 1, letter % 12, 0, 0), 0);
        }
        C.due("1: no pairs", x.count(4), 0);
        C.due("1: a pair is seen for the first time", x.pair(25, 25, 1), 1);
        C.due("1: an empty list", x.count(5), 0);
        C.due("1: no letters in the word", x.count(6), 0);
        C.due("1: nothing taught", x.count(7), 0);
        C.due("1: an empty trace", x.trace(0), Checks.NONE);
        C.due("1: no finding", x.status(), 0);
        C.due("1: gap is 30 at first", x.gap(30), 30);
    }

    private static void promise1Apart() {
        PenLines x = new PenLines();
        Checks.writeShapes(x, 0, 0);
        x.form(0, 1, 0, 0, 0, 5);
        x.pair(0, 0, 5);
        x.gap(99);
        Checks.put(x, 1);
        Checks.spell(x, 0, 0);
        x.teach(0);
        x.ask(0, 0);
        Checks.spell(x, 2);
        x.as(0, 3);
        PenLines y = new PenLines();
        for (int what = 0; what < 8; what++) {
            C.due("1: a new object beside one that was used, count " + what, y.count(what), 0);
        }
        C.due("1: its forms", y.seen(0, 1, 0, 0, 0), 0);
        C.due("1: its pairs", y.pair(0, 0, 1), 1);
        C.due("1: its gap", y.gap(1), 30);
        C.due("1: its trace", y.trace(0), Checks.NONE);
        C.due("1: its status", y.status(), 0);
        C.due("1: the gap of the other one", x.gap(1), 99);
    }

    /** SHEETS 0 .. 7, LANES 0 .. 2, 0 to 80 ITEMS, 0 at first. */
    private static void promise2() {
        for (int lane = BYTES; lane <= INTS; lane++) {
            PenLines x = new PenLines();
            C.due("2: sheet 0", x.sheet(0, lane, 1), 1);
            C.due("2: sheet 7", x.sheet(7, lane, 1), 1);
            C.due("2: sheet -1", x.sheet(-1, lane, 1), BAD);
            C.due("2: sheet 8", x.sheet(8, lane, 1), BAD);
            C.due("2: 80 items", x.sheet(0, lane, 80), 80);
            C.due("2: 81 items", x.sheet(0, lane, 81), BAD);
            C.due("2: the most items", x.sheet(0, lane, MOST), BAD);
            C.due("2: all are 0 at first", x.line(0, 0, 40), 1);
            C.due("2: the first one", x.piece(0, 0, 0), 0);
            C.due("2: the last one", x.piece(0, 39, 1), 0);
            C.due("2: 1 item", x.sheet(0, lane, 1), 1);
            C.due("2: no items", x.sheet(0, lane, 0), 0);
            C.due("2: fewer than none", x.sheet(0, lane, -1), SIZE);
            C.due("2: the fewest", x.sheet(0, lane, LEAST), SIZE);
            C.due("2: a sheet of no items is there", x.count(0), 2);
        }
        PenLines x = new PenLines();
        C.due("2: lane 0", x.sheet(0, 0, 1), 1);
        C.due("2: lane 2", x.sheet(0, 2, 1), 1);
        C.due("2: lane -1", x.sheet(0, -1, 1), BAD);
        C.due("2: lane 3", x.sheet(0, 3, 1), BAD);
        C.due("2: a lane that is none goes ahead of fewer than none", x.sheet(0, 3, -1), BAD);
        C.due("2: a sheet that is none, too", x.sheet(-1, 0, -1), BAD);
        C.due("2: status of what was BAD", x.status(), 0);
        x.sheet(0, 0, -1);
        C.due("2: status of fewer than none", x.status(), 4);
        C.due("2: what is there stays", x.drop(0), 1);
        C.due("2: nothing came for what was refused", x.sheet(1, 0, -1) + x.count(0), SIZE);
    }

    private static void promise2InPlace() {
        PenLines x = new PenLines();
        x.sheet(3, INTS, 80);
        x.set(3, 0, 1500);
        x.set(3, 79, 9);
        C.due("2: fewer in place of more", x.sheet(3, INTS, 2), 2);
        C.due("2: the place behind its end is none", x.set(3, 2, 0), PLACE);
        x.line(3, 0, 1);
        C.due("2: its items are 0", x.piece(0, 0, 0), 0);
        x.sheet(3, INTS, 80);
        x.line(3, 0, 40);
        C.due("2: more in place of fewer, all 0", x.piece(0, 39, 1), 0);
        C.due("2: the first one, too", x.piece(0, 0, 0), 0);
        x.set(3, 4, 1500);
        C.due("2: the same again", x.sheet(3, INTS, 80), 80);
        x.line(3, 4, 1);
        C.due("2: all 0 again", x.piece(0, 0, 0), 0);
        C.due("2: bytes in place of ints", x.sheet(3, BYTES, 1) + x.set(3, 0, 128), 1 - 128);
        C.due("2: ints in place of bytes", x.sheet(3, INTS, 1) + x.set(3, 0, 128), 1 + 128);
        C.due("2: one sheet all the time", x.count(0), 1);
    }

    private static void sets(String what, PenLines x, int sheet, int... givenAndKept) {
        for (int k = 0; k < givenAndKept.length; k += 2) {
            C.due("3: " + what + " of " + givenAndKept[k], x.set(sheet, 0, givenAndKept[k]), givenAndKept[k + 1]);
        }
    }

    /** The lowest bits, as many as the LANE has, read with their sign. */
    private static void promise3Bytes() {
        PenLines x = new PenLines();
        x.sheet(0, BYTES, 1);
        sets("byte", x, 0, 0, 0, 1, 1, -1, -1, 126, 126, 127, 127, 128, -128, 129, -127, -127, -127, -128, -128, -129, 127,
                -130, 126, 254, -2, 255, -1, 256, 0, 257, 1, -255, 1, -256, 0, -257, -1, 32767, -1, 32768, 0,
                0x12345680, -128, 0x1234567f, 127, LEAST, 0, LEAST + 1, 1, MOST, -1, MOST - 1, -2);
    }

    private static void promise3Shorts() {
        PenLines x = new PenLines();
        x.sheet(0, SHORTS, 1);
        sets("short", x, 0, 0, 0, -1, -1, 127, 127, 128, 128, -129, -129, 255, 255, 256, 256, 32766, 32766, 32767, 32767,
                32768, -32768, 32769, -32767, -32767, -32767, -32768, -32768, -32769, 32767, 65534, -2, 65535, -1, 65536, 0,
                65537, 1, -65535, 1, -65536, 0, -65537, -1, 0x12348000, -32768, 0x12347fff, 32767, LEAST, 0, MOST, -1);
    }

    private static void promise3Ints() {
        PenLines x = new PenLines();
        x.sheet(0, INTS, 1);
        for (int v : new int[] {0, 1, -1, 127, 128, -129, 255, 256, 32767, 32768, -32769, 65535, 65536, LEAST, LEAST + 1, MOST}) {
            C.due("3: int of " + v, x.set(0, 0, v), v);
        }
    }

    /** ITEM i becomes what set() told: seen by the lines that it may begin. */
    private static void promise3Kept() {
        PenLines x = new PenLines();
        int[] firstBad = {128, 32768, 2001};
        int[] lastGood = {127, 2000, 2000};
        int[] around = {256 + 5, 65536 + 5, 5};
        for (int lane = BYTES; lane <= INTS; lane++) {
            x.sheet(lane, lane, 4);
            x.set(lane, 0, lastGood[lane]);
            C.due("3: kept, lane " + lane, x.line(lane, 0, 1) + x.piece(0, 0, 0), 1 + lastGood[lane]);
            x.set(lane, 0, firstBad[lane]);
            C.due("3: kept with its sign, or as it is, lane " + lane, x.line(lane, 0, 1), BAD);
            x.set(lane, 0, around[lane]);
            C.due("3: the lowest bits are kept, lane " + lane, x.line(lane, 0, 1) + x.piece(0, 0, 0), 6);
            x.set(lane, 2, 11);
            x.line(lane, 2, 1);
            C.due("3: another item, lane " + lane, x.piece(0, 0, 0), 11);
            C.due("3: the one behind it stays, lane " + lane, x.piece(0, 0, 1), 0);
            x.line(lane, 0, 1);
            C.due("3: the one ahead stays, lane " + lane, x.piece(0, 0, 0), 5);
        }
    }

    private static void promise3Places() {
        PenLines x = new PenLines();
        x.sheet(0, INTS, 80);
        x.sheet(7, INTS, 1);
        x.sheet(1, INTS, 0);
        C.due("3: place 0", x.set(0, 0, 4), 4);
        C.due("3: place 79 of 80", x.set(0, 79, 4), 4);
        C.all("3: places that are none", PLACE, x.set(0, -1, 4), x.set(0, 80, 4), x.set(7, 1, 4), x.set(7, -1, 4),
                x.set(1, 0, 4), x.set(1, -1, 4), x.set(0, LEAST, 4), x.set(0, MOST, 4));
        C.due("3: place 0 of 1, of sheet 7", x.set(7, 0, 4), 4);
        C.all("3: sheets that are none", BAD, x.set(-1, 0, 4), x.set(8, 0, 4), x.set(LEAST, 0, 4), x.set(MOST, 0, 4));
        C.all("3: missing goes ahead of places", NULL, x.set(2, -1, 4), x.set(2, 80, 4), x.set(6, 0, 4));
    }

    private static void promise4() {
        PenLines x = new PenLines();
        x.sheet(0, INTS, 80);
        x.sheet(7, INTS, 80);
        for (int k = 0; k < 80; k++) {
            x.set(0, k, k % 11);
        }
        C.due("4: from sheet 0 to sheet 7, all", x.copy(0, 0, 7, 0, 80), 80);
        C.due("4: all came", x.line(7, 0, 40), 1);
        for (int k = 0; k < 40; k++) {
            C.due("4: x " + k, x.piece(0, k, 0), 2 * k % 11);
            C.due("4: shape " + k, x.piece(0, k, 1), (2 * k + 1) % 11);
        }
        C.due("4: from sheet 7 to sheet 0, one", x.copy(7, 79, 0, 0, 1), 1);
        x.line(0, 0, 1);
        C.due("4: it came", x.piece(0, 0, 0), 79 % 11);
        C.due("4: the one behind it stays", x.piece(0, 0, 1), 1);
        C.due("4: none", x.copy(7, 3, 0, 0, 0), 0);
        x.line(0, 0, 1);
        C.due("4: none came", x.piece(0, 0, 0), 79 % 11);
        C.all("4: sheets that are none", BAD, x.copy(-1, 0, 0, 0, 1), x.copy(8, 0, 0, 0, 1), x.copy(0, 0, -1, 0, 1),
                x.copy(0, 0, 8, 0, 1), x.copy(LEAST, 0, MOST, 0, 1));
    }

    /** PLACE (i, j, n below 0, or beyond an end). */
    private static void promise4Places() {
        PenLines x = new PenLines();
        x.sheet(0, INTS, 80);
        x.sheet(1, INTS, 10);
        x.sheet(2, INTS, 0);
        C.due("4: 10 of 80 to their end", x.copy(0, 70, 1, 0, 10), 10);
        C.due("4: 1 of 80 at their end", x.copy(0, 79, 1, 9, 1), 1);
        C.all("4: none at an end", 0, x.copy(0, 80, 1, 10, 0), x.copy(2, 0, 2, 0, 0), x.copy(1, 10, 2, 0, 0));
        C.all("4: below 0", PLACE, x.copy(0, -1, 1, 0, 1), x.copy(0, 0, 1, -1, 1), x.copy(0, 0, 1, 0, -1),
                x.copy(0, -1, 1, 0, 0), x.copy(0, 0, 1, -1, 0), x.copy(0, 80, 1, 10, -1), x.copy(0, 5, 1, 5, -5),
                x.copy(0, LEAST, 1, 0, 1), x.copy(0, 0, 1, LEAST, 1), x.copy(0, 0, 1, 0, LEAST));
        C.all("4: beyond the end of a", PLACE, x.copy(1, 1, 0, 0, 10), x.copy(1, 0, 0, 0, 11), x.copy(1, 10, 0, 0, 1),
                x.copy(1, 11, 0, 0, 0), x.copy(2, 0, 0, 0, 1), x.copy(1, MOST, 0, 0, 1), x.copy(1, 1, 0, 0, MOST));
        C.all("4: beyond the end of b", PLACE, x.copy(0, 0, 1, 1, 10), x.copy(0, 0, 1, 0, 11), x.copy(0, 0, 1, 10, 1),
                x.copy(0, 0, 1, 11, 0), x.copy(0, 0, 2, 0, 1), x.copy(0, 0, 1, MOST, 1), x.copy(0, 0, 0, 1, 80));
        C.all("4: sums that wrap around", PLACE, x.copy(0, MOST, 1, 0, MOST), x.copy(0, 2, 1, 2, MOST - 1),
                x.copy(0, MOST, 1, MOST, 2), x.copy(0, MOST, 1, 0, 0), x.copy(0, 0, 1, MOST, 0));
    }

    /** As they were ahead, and in another sheet of the same LANE with their sign. */
    private static void promise4Kept() {
        PenLines x = new PenLines();
        for (int lane = BYTES; lane <= INTS; lane++) {
            x.sheet(0, lane, 6);
            x.sheet(1, lane, 6);
            Checks.fill(x, 0, 10, 1, 20, 2, 30, 3);
            C.due("4: a piece on, lane " + lane, x.copy(0, 0, 0, 2, 4), 4);
            x.line(0, 0, 3);
            C.due("4: the first stays, lane " + lane, x.piece(0, 0, 0), 10);
            C.due("4: the first comes second, lane " + lane, x.piece(0, 1, 0), 10);
            C.due("4: the second comes third, lane " + lane, x.piece(0, 2, 0), 20);
            C.due("4: its shape, lane " + lane, x.piece(0, 2, 1), 2);
            C.due("4: a piece back, lane " + lane, x.copy(0, 2, 0, 0, 4), 4);
            x.line(0, 0, 3);
            C.due("4: the third comes second, lane " + lane, x.piece(0, 1, 0), 20);
            C.due("4: onto itself, lane " + lane, x.copy(0, 0, 0, 0, 6), 6);
            x.line(0, 0, 3);
            C.due("4: all stay, lane " + lane, x.piece(0, 1, 1), 2);
            x.set(0, 0, -1);
            x.copy(0, 0, 1, 0, 6);
            C.due("4: its sign comes with it, lane " + lane, x.line(1, 0, 1), BAD);
            C.due("4: the others, too, lane " + lane, x.line(1, 2, 1) + x.piece(0, 0, 0), 21);
        }
    }

    /** BAD: SHEETS; NULL; STORE; PLACE. */
    private static void promise4Order() {
        PenLines x = new PenLines();
        x.sheet(0, BYTES, 5);
        x.sheet(1, SHORTS, 5);
        x.sheet(2, INTS, 5);
        C.all("4: BAD goes ahead of NULL", BAD, x.copy(7, 0, 8, 0, 1), x.copy(-1, 0, 7, 0, 1));
        C.all("4: NULL goes ahead of STORE and PLACE", NULL, x.copy(7, -1, 0, 0, 1), x.copy(0, -1, 7, 0, 1),
                x.copy(0, 0, 7, 0, -1), x.copy(7, 0, 7, 0, 1));
        C.all("4: two lanes", STORE, x.copy(0, 0, 1, 0, 1), x.copy(1, 0, 0, 0, 1), x.copy(0, 0, 2, 0, 1),
                x.copy(2, 0, 0, 0, 1), x.copy(1, 0, 2, 0, 1), x.copy(2, 0, 1, 0, 1));
        C.all("4: STORE goes ahead of PLACE", STORE, x.copy(0, -1, 1, 0, 1), x.copy(0, 0, 1, 9, 1), x.copy(0, 0, 1, 0, -1),
                x.copy(0, 0, 1, 0, MOST));
        C.due("4: two lanes, none of their items", x.copy(0, 0, 1, 0, 0), STORE);
    }

    private static void promise5() {
        PenLines x = new PenLines();
        for (int sheet = 0; sheet < 8; sheet++) {
            x.sheet(sheet, sheet % 3, 10 * sheet);
        }
        C.due("5: none", x.drop(0), 0);
        x.sheet(0, INTS, 80);
        C.due("5: 80", x.drop(0), 80);
        C.due("5: 70 of sheet 7", x.drop(7), 70);
        C.all("5: missing from now on", NULL, x.drop(0), x.drop(7), x.set(0, 0, 0), x.line(0, 0, 1), x.copy(0, 0, 1, 0, 0),
                x.copy(1, 0, 0, 0, 0));
        C.all("5: sheets that are none", BAD, x.drop(-1), x.drop(8), x.drop(LEAST), x.drop(MOST));
        C.due("5: six are left", x.count(0), 6);
        C.due("5: its neighbour is there", x.drop(1), 10);
        C.due("5: the other neighbour, too", x.drop(6), 60);
        x.sheet(0, INTS, 2);
        x.set(0, 0, 77);
        x.drop(0);
        C.due("5: it comes again", x.sheet(0, INTS, 2), 2);
        x.line(0, 0, 1);
        C.due("5: with items of 0", x.piece(0, 0, 0), 0);
    }

    private static void status(String what, PenLines x, int answer, int due, int finding) {
        C.due("27: " + what, answer, due);
        C.due("27: status of " + what, x.status(), finding);
        C.due("27: status of " + what + ", asked again", x.status(), finding);
    }

    /** The number of its FINDING; 0: it had none. Each call with a SHEET, and as(), by each of its findings. */
    private static void promise27ByCall() {
        PenLines x = new PenLines();
        status("set on a missing one", x, x.set(0, 0, 0), NULL, 1);
        status("sheet", x, x.sheet(0, INTS, 4), 4, 0);
        status("set behind the end", x, x.set(0, 4, 0), PLACE, 2);
        status("set", x, x.set(0, 0, 9), 9, 0);
        status("sheet of fewer than none", x, x.sheet(0, INTS, -1), SIZE, 4);
        status("drop", x, x.drop(0), 4, 0);
        status("drop of a missing one", x, x.drop(0), NULL, 1);
        x.sheet(0, INTS, 4);
        status("copy of a missing one", x, x.copy(5, 0, 0, 0, 1), NULL, 1);
        status("copy", x, x.copy(0, 0, 0, 1, 1), 1, 0);
        status("copy to a missing one", x, x.copy(0, 0, 5, 0, 1), NULL, 1);
        x.sheet(1, BYTES, 4);
        status("copy to another lane", x, x.copy(0, 0, 1, 0, 1), STORE, 5);
        status("copy of none", x, x.copy(0, 0, 0, 0, 0), 0, 0);
        status("copy beyond the end of a", x, x.copy(0, 1, 0, 0, 4), PLACE, 2);
        x.sheet(1, BYTES, 4);
        status("copy beyond the end of b", x, x.copy(0, 0, 0, 1, 4), PLACE, 2);
        status("line of a missing one", x, x.line(5, 0, 1), NULL, 1);
        status("line", x, x.line(0, 2, 1), 1, 0);
        status("line beyond the end", x, x.line(0, 3, 1), PLACE, 2);
        status("as", x, x.as(0, 0), 1, 0);
        status("as one that it is not", x, x.as(0, 1), KIND, 3);
        x.form(0, 1, 0, 0, 0, 1);
        status("as one that it is now", x, x.as(0, 2), 1, 0);
        status("as one that it is not yet", x, x.as(0, 3), KIND, 3);
        status("set of 0", x, x.set(0, 0, 0), 0, 0);
    }

    /** Of the latest call that was not BAD, STATE, FULL, and only of calls with a SHEET, and as(). */
    private static void promise27PassedOver() {
        PenLines x = new PenLines();
        x.sheet(0, INTS, 2);
        x.line(0, 0, 1);
        x.set(0, 0, 2001);
        x.as(0, 1);
        int[] bad = {x.sheet(8, 0, 1), x.sheet(0, 3, 1), x.sheet(0, 0, 81), x.set(8, 0, 0), x.copy(8, 0, 0, 0, 1),
            x.copy(0, 0, 8, 0, 1), x.drop(8), x.line(8, 0, 1), x.line(0, 0, 0), x.line(0, 0, 41), x.line(0, 0, 1), x.as(1, 0),
            x.as(0, 4), x.as(0, -1)};
        C.all("27: BAD", BAD, bad);
        C.due("27: what is BAD is passed over", x.status(), 3);
        x.gap(1);
        x.ink(0, 0);
        x.piece(0, 0, 0);
        x.loose();
        x.form(0, 1, 0, 0, 0, 1);
        x.seen(0, 1, 0, 0, 0);
        x.pair(0, 0, 1);
        x.letter(0);
        x.list();
        x.list();
        x.wipe();
        x.listed(0, 0, 0);
        x.open(0, 0, 0);
        x.find(0);
        x.teach(0);
        x.letter(0);
        x.teach(0);
        x.unteach();
        x.kind(0);
        x.ask(0, 0);
        x.trace(0);
        x.count(0);
        C.due("27: calls without a sheet are passed over", x.status(), 3);
        x.sheet(0, INTS, 2);
        for (int k = 0; k < 2; k++) {
            x.ask(k, 0);
            x.unteach();
            x.find(0);
        }
        C.due("27: they leave 0, too", x.status(), 0);
    }
}
