/** Of several sheets, inks, forms, pairs, words each call means just the one that it is told, and leaves the others. */
public final class Apart {
    private static final Checks C = new Checks();
    private static final int NONE = Checks.NONE, DOT = Checks.DOT;
    private static final int A = 0, B = 1, D = 3, E = 4, F = 5, I = 8;

    public static void main(String[] args) {
        promise3();
        promise4Sheets();
        promise4Items();
        promise5();
        promise6Sheets();
        promise6Leaves();
        promise9();
        promise9Between();
        promise10();
        promise12();
        promise13();
        promise16();
        promise17And18();
        promise18Dots();
        promise18DotsFar();
        promise19();
        promise20();
        promise20Pairs();
        promise20Forms();
        promise24();
        promise26();
        C.end("Apart");
    }

    /** Eight sheets of ints, whose items all differ: item i of sheet s is 20 s + i, a shape on odd places. */
    private static PenLines eightSheets() {
        PenLines x = new PenLines();
        for (int sheet = 0; sheet < 8; sheet++) {
            x.sheet(sheet, 2, 4);
            for (int i = 0; i < 4; i++) {
                x.set(sheet, i, itemOf(sheet, i));
            }
        }
        return x;
    }

    private static int itemOf(int sheet, int i) {
        return i % 2 == 0 ? 20 * sheet + i : (sheet + i) % 12;
    }

    private static void holds(String what, PenLines x, int sheet, int... due) {
        C.due(what + ", sheet " + sheet + " makes a line", x.line(sheet, 0, 2) < 0 ? 0 : 1, 1);
        int second = x.count(1) - 1;
        C.due(what + ", sheet " + sheet + " item 0", x.piece(0, 0, 0), due[0]);
        C.due(what + ", sheet " + sheet + " item 1", x.piece(0, 0, 1), due[1]);
        C.due(what + ", sheet " + sheet + " item 2", x.piece(second, second == 0 ? 1 : 0, 0), due[2]);
        C.due(what + ", sheet " + sheet + " item 3", x.piece(second, second == 0 ? 1 : 0, 1), due[3]);
    }

    private static void holdsItsOwn(String what, PenLines x, int sheet) {
        holds(what, x, sheet, itemOf(sheet, 0), itemOf(sheet, 1), itemOf(sheet, 2), itemOf(sheet, 3));
    }

    private static void promise3() {
        for (int sheet = 0; sheet < 8; sheet++) {
            PenLines x = eightSheets();
            C.due("3: set in sheet " + sheet, x.set(sheet, 2, 999), 999);
            for (int other = 0; other < 8; other++) {
                if (other == sheet) {
                    holds("3: set", x, sheet, itemOf(sheet, 0), itemOf(sheet, 1), 999, itemOf(sheet, 3));
                } else {
                    holdsItsOwn("3: set in sheet " + sheet, x, other);
                }
            }
        }
    }

    private static void promise4Sheets() {
        for (int a = 0; a < 8; a++) {
            for (int b = 0; b < 8; b++) {
                String what = "4: from sheet " + a + " to sheet " + b;
                PenLines x = eightSheets();
                C.due(what, x.copy(a, 0, b, 0, 4), 4);
                for (int other = 0; other < 8; other++) {
                    if (other == b) {
                        holds(what, x, b, itemOf(a, 0), itemOf(a, 1), itemOf(a, 2), itemOf(a, 3));
                    } else {
                        holdsItsOwn(what, x, other);
                    }
                }
            }
        }
    }

    /** Every i, j, n that fits, from one sheet to another and in one sheet. */
    private static void promise4Items() {
        for (int b = 0; b < 2; b++) {
            for (int i = 0; i <= 5; i++) {
                for (int j = 0; j <= 5; j++) {
                    for (int n = 0; n <= 5 - Math.max(i, j); n++) {
                        copied(b, i, j, n);
                    }
                }
            }
        }
    }

    private static void copied(int b, int i, int j, int n) {
        PenLines x = new PenLines();
        int[][] due = {{1, 2, 3, 4, 5}, {6, 7, 8, 9, 10}};
        for (int sheet = 0; sheet < 2; sheet++) {
            x.sheet(sheet, 0, 6);
            Checks.fill(x, sheet, due[sheet]);
        }
        String what = "4: to sheet " + b + " from " + i + " to " + j + ", " + n;
        C.due(what, x.copy(0, i, b, j, n), n);
        int[] taken = due[0].clone();
        System.arraycopy(taken, i, due[b], j, n);
        for (int sheet = 0; sheet < 2; sheet++) {
            for (int k = 0; k < 5; k++) {
                x.line(sheet, k, 1);
                C.due(what + ": item " + k + " of sheet " + sheet, x.piece(0, 0, 0), due[sheet][k]);
            }
        }
    }

    private static void promise5() {
        for (int sheet = 0; sheet < 8; sheet++) {
            PenLines x = eightSheets();
            C.due("5: drop of sheet " + sheet, x.drop(sheet), 4);
            for (int other = 0; other < 8; other++) {
                if (other == sheet) {
                    C.due("5: it is missing", x.line(other, 0, 1), Checks.NULL);
                } else {
                    holdsItsOwn("5: with sheet " + sheet + " dropped", x, other);
                }
            }
            C.due("5: seven are left", x.count(0), 7);
            C.due("2: it is laid again", x.sheet(sheet, 2, 4), 4);
            holds("2: laid again", x, sheet, 0, 0, 0, 0);
            holdsItsOwn("2: beside it", x, (sheet + 1) % 8);
        }
    }

    private static void promise6Sheets() {
        PenLines x = eightSheets();
        for (int sheet = 0; sheet < 8; sheet++) {
            for (int i = 0; i < 3; i += 2) {
                x.line(sheet, i, 1);
                C.due("6: x of sheet " + sheet + " from " + i, x.piece(0, 0, 0), itemOf(sheet, i));
                C.due("6: shape of sheet " + sheet + " from " + i, x.piece(0, 0, 1), itemOf(sheet, i + 1));
            }
        }
    }

    /** THE LINE is as it was written, whatever becomes of the sheet that it was read from. */
    private static void promise6Leaves() {
        PenLines x = new PenLines();
        x.form(A, 1, 1, 0, 0, 3);
        x.form(I, 1, 2, 0, 0, 3);
        x.sheet(0, 1, 8);
        Checks.fill(x, 0, 10, 1, 20, 2, 21, DOT, 90, 3);
        C.due("6: a line of two inks", x.line(0, 0, 4), 2);
        lineIsLeft("6: as it is written", x);
        x.set(0, 0, 500);
        x.set(0, 1, 5);
        lineIsLeft("6: items set behind it", x);
        x.copy(0, 4, 0, 0, 4);
        lineIsLeft("6: items copied over it", x);
        x.sheet(0, 2, 80);
        lineIsLeft("6: another sheet in its place", x);
        x.drop(0);
        lineIsLeft("6: its sheet dropped", x);
        x.gap(1);
        x.gap(30);
        lineIsLeft("6: parted anew, twice", x);
    }

    private static void lineIsLeft(String what, PenLines x) {
        C.due(what + ": inks", x.count(1), 2);
        C.due(what + ": dots", x.count(2), 1);
        C.due(what + ": first x", x.piece(0, 0, 0), 10);
        C.due(what + ": first shape", x.piece(0, 0, 1), 1);
        C.due(what + ": second x", x.piece(0, 1, 0), 20);
        C.due(what + ": its dot", x.piece(0, 1, 2), 1);
        C.due(what + ": last x", x.piece(1, 0, 0), 90);
        C.opens(what, x, 0, "12 ai");
    }

    private static void dotsOn(String what, PenLines x, int ink, int... due) {
        int sum = 0;
        for (int k = 0; k < due.length; k++) {
            C.due(what + ": dots on piece " + k + " of ink " + ink, x.piece(ink, k, 2), due[k]);
            sum += due[k];
        }
        C.due("8" + what.substring(1) + ": dots of ink " + ink, x.ink(ink, 2), sum);
    }

    /** Dots are joined to the pieces of their own ink, wherever in the line they and it stand. */
    private static void promise9() {
        PenLines x = new PenLines();
        int[][] lines = {
            {0, 0, 100, 1, 110, 2, 120, 3, 300, 4, 310, 5, 320, 6, 119, DOT, 311, DOT, 321, DOT, 309, DOT, 99, DOT},
            {119, DOT, 311, DOT, 321, DOT, 309, DOT, 99, DOT, 0, 0, 100, 1, 110, 2, 120, 3, 300, 4, 310, 5, 320, 6},
            {0, 0, 99, DOT, 100, 1, 119, DOT, 110, 2, 321, DOT, 120, 3, 300, 4, 311, DOT, 310, 5, 320, 6, 309, DOT}};
        for (int[] items : lines) {
            C.due("9: three inks", Checks.write(x, items), 3);
            for (int gap = 10; gap < 100; gap += 15) {
                x.gap(gap);
                dotsOn("9: by gap " + gap, x, 0, 0);
                dotsOn("9: by gap " + gap, x, 1, 1, 0, 1);
                dotsOn("9: by gap " + gap, x, 2, 0, 2, 1);
                C.due("10: none is loose", x.loose(), 0);
            }
            x.gap(30);
        }
    }

    /** An ink may stand on both sides of another one: its dots are its own. */
    private static void promise9Between() {
        PenLines x = new PenLines();
        C.due("9: the second ink on both sides of the first", Checks.write(x, 50, 0, 100, 1, 0, 2, 60, DOT, 40, DOT, 50, DOT), 2);
        dotsOn("9: between", x, 0, 1);
        dotsOn("9: on both sides", x, 1, 1, 1);
        C.due("9: the same of three pieces each", Checks.write(x, 40, 9, 50, 11, 60, 9, 100, 7, 0, 0, 20, 5, 70, DOT, 30, DOT,
                50, DOT, 97, DOT, 66, DOT, 65, DOT, 34, DOT, 3, DOT), 2);
        dotsOn("9: three between", x, 0, 0, 1, 1);
        dotsOn("9: three on both sides", x, 1, 3, 1, 2);
        int[] items = new int[2 * 40];
        for (int k = 0; k < 37; k++) {
            items[2 * k] = k % 2 == 0 ? 0 : 2;
        }
        for (int k = 37; k < 40; k++) {
            items[2 * k] = k - 31;
            items[2 * k + 1] = DOT;
        }
        x.gap(1);
        C.due("9: nineteen inks over one another", Checks.write(x, items), 19);
        dotsOn("9: where the first does not reach", x, 1, 2, 0);
        C.due("10: where none reaches, though there are so many", x.loose(), 1);
    }

    /** A dot that stands where an ink of the line ahead stood is loose. */
    private static void promise10() {
        PenLines x = new PenLines();
        for (int behind = 0; behind < 8; behind++) {
            Checks.write(x, 0, 0, 200, 0, 400, 0, 600, 0, 800, 0, 1000, 0, 1200, 0, 1400, 0);
            C.due("10: eight inks", x.count(1), 8);
            int[] items = new int[2 * (behind + 8)];
            for (int k = 0; k < 8; k++) {
                items[2 * (behind + k)] = 200 * k;
                items[2 * (behind + k) + 1] = DOT;
            }
            Checks.write(x, items);
            C.due("10: an ink of " + behind + " pieces, dots all over", x.loose(), behind == 0 ? 8 : 7);
            C.due("8: that ink", x.ink(0, 2), behind == 0 ? Checks.BAD : 1);
            C.due("8: no ink of the line ahead", x.ink(1, 2), Checks.BAD);
        }
    }

    /** All forms of a letter that have the same few shapes, and those of its neighbours. */
    private static void promise12() {
        PenLines x = new PenLines();
        int often = 0;
        for (int letter = E; letter <= F; letter++) {
            for (int s = 0; s < 39; s++) {
                often++;
                C.due("11: form " + s + " of letter " + letter + " is a new one", told(x, letter, s, often), often);
            }
        }
        C.due("26: as many forms", x.count(3), 78);
        often = 0;
        for (int letter = E; letter <= F; letter++) {
            for (int s = 0; s < 39; s++) {
                often++;
                C.due("12: form " + s + " of letter " + letter, seen(x, letter, s), often);
            }
        }
        Checks.writeShapes(x, 11, 0, 10, 11);
        Checks.spell(x, E, F);
        C.due("20: taught with so many forms", x.teach(0), 2);
        C.due("21: and untaught", x.unteach(), 0);
        often = 0;
        for (int letter = E; letter <= F; letter++) {
            for (int s = 0; s < 39; s++) {
                often++;
                C.due("21: form " + s + " of letter " + letter, seen(x, letter, s), often);
            }
        }
    }

    /** Rows of the shapes 0, 10, 11: three of one, nine of two, twenty-seven of three. */
    private static int told(PenLines x, int letter, int s, int often) {
        int[] shapes = {0, 10, 11};
        int n = s < 3 ? 1 : s < 12 ? 2 : 3;
        int k = s < 3 ? s : s < 12 ? s - 3 : s - 12;
        return x.form(letter, n, shapes[k % 3], shapes[k / 3 % 3], shapes[k / 9 % 3], often);
    }

    private static int seen(PenLines x, int letter, int s) {
        int[] shapes = {0, 10, 11};
        int n = s < 3 ? 1 : s < 12 ? 2 : 3;
        int k = s < 3 ? s : s < 12 ? s - 3 : s - 12;
        return x.seen(letter, n, shapes[k % 3], shapes[k / 3 % 3], shapes[k / 9 % 3]);
    }

    /** Any two of the 676 pairs are told to one of these objects. */
    private static void promise13() {
        for (int out = 0; out < 3; out++) {
            PenLines x = new PenLines();
            int many = 0;
            for (int a = 0; a < 26; a++) {
                for (int b = 0; b < 26 && (a < 9 * out || a >= 9 * out + 9); b++) {
                    many++;
                    C.due("13: pair " + a + ", " + b + " is a new one", x.pair(a, b, 1 + many % 99), 1 + many % 99);
                }
            }
            C.due("26: as many pairs", x.count(4), many);
        }
    }

    private static void promise16() {
        PenLines x = new PenLines();
        Checks.put(x, A);
        Checks.put(x, B, B);
        Checks.spell(x, D, E);
        C.due("16: two letters", x.wipe(), 2);
        C.due("16: the list stays", x.count(5), 2);
        C.due("16: its words, too", Checks.put(x, B, B), Checks.STATE);
        x.wipe();
        C.due("16: what was wiped is not in it", Checks.put(x, D, E), 2);
    }

    private static final int[] LETTER_OF_SHAPE = {0, 1, 2, 3, 4, 5, 6, 7, 25, 10};
    private static final int[][] SHAPES_OF_INK = {{0}, {1, 2}, {3, 4, 5}, {6, 7, 8, 9}};

    /** Inks of one, two, three, four pieces, of shapes that no other has; the third with a dot, and one that is loose. */
    private static PenLines fourInks() {
        PenLines x = new PenLines();
        Checks.write(x, 0, 0, 100, 1, 105, 2, 200, 3, 205, 4, 210, 5, 206, DOT, 250, DOT, 300, 6, 305, 7, 310, 8, 315, 9);
        for (int shape = 0; shape < 10; shape++) {
            x.form(LETTER_OF_SHAPE[shape], 1, shape, 0, 0, 1);
        }
        return x;
    }

    private static void spellInk(PenLines x, int ink) {
        for (int shape : SHAPES_OF_INK[ink]) {
            x.letter(LETTER_OF_SHAPE[shape]);
        }
    }

    private static void promise17And18() {
        PenLines x = fourInks();
        for (int ink = 3; ink >= 0; ink--) {
            spellInk(x, ink);
            C.due("15: the word of ink " + ink, x.list(), 3 - ink);
        }
        int[] inOrder = {2, 0, 3, 1, 0, 1, 2, 3, 3, 2, 1, 0};
        int[] cost = {6, 12, 22, 24};
        String[] open = {"6 a", "18 bc", "34 def", "42 ghzk"};
        for (int ink : inOrder) {
            C.due("17: place of ink " + ink, x.listed(ink, 0, 0), 3 - ink);
            C.due("17: no other of ink " + ink, x.listed(ink, 1, 0), NONE);
            C.opens("18: ink " + ink, x, ink, open[ink]);
        }
        for (int ink : inOrder) {
            C.due("17: cost of ink " + ink, x.listed(ink, 0, 1), cost[ink]);
            C.due("22: kind of ink " + ink, x.kind(ink), 3);
        }
    }

    /** DOTS are no PIECES of an INK that is read. */
    private static void promise18Dots() {
        PenLines x = new PenLines();
        x.form(A, 1, 0, 0, 0, 12);
        x.form(A, 2, 0, 0, 0, 12);
        x.form(A, 3, 0, 0, 0, 12);
        x.pair(A, A, 6);
        for (int pieces = 12; pieces <= 15; pieces++) {
            int[] items = new int[2 * pieces + 8];
            for (int k = 0; k < 4; k++) {
                items[2 * pieces + 2 * k + 1] = DOT;
            }
            C.due("18: an ink of " + pieces + " pieces and four dots", Checks.write(x, items), 1);
            C.due("18: its pieces", x.ink(0, 0), pieces);
            C.due("18: its dots", x.ink(0, 2), 4);
            C.due("18: it is read", x.open(0, 0, -1), pieces <= 14 ? 4 : NONE);
            C.due("22: its kind", x.kind(0), pieces <= 14 ? 1 : 0);
        }
    }

    /** The dot of a row is that of its own pieces, be they far behind in the line, and GAP small. */
    private static void promise18DotsFar() {
        PenLines x = new PenLines();
        x.form(A, 1, 0, 0, 0, 12);
        x.form(I, 1, 0, 0, 0, 12);
        x.form(E, 3, 0, 0, 0, 12);
        x.pair(A, I, 6);
        x.pair(I, A, 6);
        x.pair(A, A, 6);
        x.gap(1);
        for (int at = 0; at < 8; at++) {
            Checks.write(x, 200, 1, 0, 0, 1, 0, 2, 0, 3, 0, 4, 0, 5, 0, 6, 0, 7, 0, at, DOT);
            C.due("8: one ink, as it does not go up by more than 1", x.count(1), 1);
            Checks.write(x, 100, 1, 102, 0, 103, 0, 104, 0, 105, 0, 106, 0, 107, 0, 108, 0, 109, 0, 102 + at, DOT, 100, DOT);
            dotsOn("9: the first ink, which reaches to 105", x, 0, at <= 3 ? 2 : 1);
            StringBuilder due = new StringBuilder("0 aaaaaaaa");
            if (at > 3) {
                due.setCharAt(2 + at, 'i');
            }
            C.due("18: eight letters, dot " + at, Checks.opened(x, 1, 0).equals(due.toString()) ? 1 : 0, 1);
        }
    }

    private static void promise19() {
        PenLines x = fourInks();
        for (int ink = 0; ink < 4; ink++) {
            spellInk(x, ink);
            C.due("19: ink " + ink, x.find(0), ink);
            C.due("19: it alone, " + ink, x.find(1), NONE);
            x.wipe();
        }
        PenLines y = new PenLines();
        y.form(A, 1, 0, 0, 0, 1);
        Checks.spell(y, A);
        Checks.write(y, 0, 0, 100, 0, 200, 0, 300, 0);
        C.due("19: the last of four", y.find(3), 3);
        Checks.writeShapes(y, 0, 0, 0, 0, 0);
        C.due("19: one ink of five pieces, nothing of the inks that were there", y.find(0), NONE);
        Checks.spell(y, A, A, A, A);
        C.due("19: it is found", y.find(0), 0);
        C.due("19: and nothing behind it", y.find(1), NONE);
    }

    /** TEACHING an INK counts its own FORMS, wherever in THE LINE it stands. */
    private static void promise20() {
        for (int ink = 0; ink < 4; ink++) {
            PenLines x = fourInks();
            spellInk(x, ink);
            C.due("20: letters of ink " + ink, x.teach(ink), ink + 1);
            taught("20: ink " + ink, x, ink, 2);
            C.due("20: as many pairs", x.count(4), ink);
            C.due("20: no other forms", x.count(3), 10);
            x.unteach();
            taught("21: ink " + ink, x, ink, 1);
            C.due("21: no pairs", x.count(4), 0);
            for (int other = 0; other < 4; other++) {
                spellInk(x, ink);
                C.due("20: the word of ink " + ink + " taught to ink " + other, x.teach(other), other == ink ? ink + 1 : Checks.STATE);
                x.wipe();
            }
            int[] shapes = SHAPES_OF_INK[ink];
            for (int k = 1; k < shapes.length; k++) {
                int ahead = LETTER_OF_SHAPE[shapes[k - 1]];
                C.due("20: pair " + k + " of ink " + ink, x.pair(ahead, LETTER_OF_SHAPE[shapes[k]], 1), 2);
            }
        }
    }

    private static void taught(String what, PenLines x, int ink, int due) {
        for (int other = 0; other < 4; other++) {
            for (int shape : SHAPES_OF_INK[other]) {
                C.due(what + ": form of shape " + shape, x.seen(LETTER_OF_SHAPE[shape], 1, shape, 0, 0), other == ink ? due : 1);
            }
        }
    }

    /** One word that two inks are read as, by other forms. */
    private static void promise20Forms() {
        PenLines x = new PenLines();
        Checks.write(x, 0, 0, 5, 1, 100, 2, 105, 3, 110, 4, 200, 5);
        x.form(A, 1, 0, 0, 0, 1);
        x.form(B, 1, 1, 0, 0, 1);
        x.form(A, 2, 2, 3, 0, 1);
        x.form(B, 1, 4, 0, 0, 1);
        Checks.spell(x, A, B);
        C.due("20: the second ink", x.teach(1), 2);
        C.due("20: its forms", x.seen(A, 2, 2, 3, 0) * 10 + x.seen(B, 1, 4, 0, 0), 22);
        C.due("20: not those of the first ink", x.seen(A, 1, 0, 0, 0) * 10 + x.seen(B, 1, 1, 0, 0), 11);
        Checks.spell(x, A, B);
        C.due("20: the first ink", x.teach(0), 2);
        C.due("20: now its forms", x.seen(A, 1, 0, 0, 0) * 10 + x.seen(B, 1, 1, 0, 0), 22);
        C.due("20: those of the second ink stay", x.seen(A, 2, 2, 3, 0) * 10 + x.seen(B, 1, 4, 0, 0), 22);
        C.due("20: one pair", x.count(4), 1);
        C.due("20: seen twice, and once more", x.pair(A, B, 1), 3);
    }

    private static void promise20Pairs() {
        PenLines x = new PenLines();
        Checks.writeShapes(x, 0, 1, 2, 0, 1);
        x.form(A, 1, 0, 0, 0, 1);
        x.form(B, 1, 1, 0, 0, 1);
        x.form(D, 1, 2, 0, 0, 1);
        Checks.spell(x, A, B, D, A, B);
        C.due("20: five letters", x.teach(0), 5);
        C.due("20: three pairs, one of them twice", x.count(4), 3);
        C.due("20: forms of the first letter", x.seen(A, 1, 0, 0, 0), 3);
        C.due("20: of the second", x.seen(B, 1, 1, 0, 0), 3);
        C.due("20: of the third", x.seen(D, 1, 2, 0, 0), 2);
        C.due("20: the pair that is there twice, and once more", x.pair(A, B, 1), 3);
        C.due("20: the second pair, and once more", x.pair(B, D, 1), 2);
        C.due("20: the third pair, and once more", x.pair(D, A, 1), 2);
    }

    /** MARK tells the DOTS of the INK, not those of another one nor loose ones. */
    private static void promise24() {
        PenLines x = new PenLines();
        Checks.write(x, 0, 0, 0, DOT, 50, DOT, 100, 1, 99, DOT, 101, DOT, 150, DOT, 160, DOT, 200, 2, 205, 3);
        C.due("10: three are loose", x.loose(), 3);
        int[] pieces = {1, 1, 2};
        int[] dots = {1, 2, 0};
        for (int ink = 2; ink >= 0; ink--) {
            C.due("24: size of ink " + ink, x.ask(ink, 0), pieces[ink]);
            C.due("24: mark of ink " + ink, x.ask(ink, 1), dots[ink]);
        }
        x.form(I, 1, 0, 0, 0, 12);
        x.form(I, 1, 1, 0, 0, 6);
        x.form(A, 2, 2, 3, 0, 2);
        int[] cost = {0, 1, 4};
        for (int ink = 0; ink < 3; ink++) {
            C.due("24: size of ink " + ink + ", which is sure", x.ask(ink, 0), 2 * (pieces[ink] + cost[ink]));
            C.due("24: mark of ink " + ink + ", which is sure", x.ask(ink, 1), 100 + dots[ink]);
        }
        Checks.put(x, A);
        Checks.put(x, I);
        int[] place = {1, 1, 0};
        for (int ink = 2; ink >= 0; ink--) {
            int mark = 100 + dots[ink] + place[ink];
            C.due("24: mark of ink " + ink + ", which is listed", x.ask(ink, 1), mark);
            C.due("24: size of ink " + ink + ", which is listed", x.ask(ink, 0), 2 * (pieces[ink] + cost[ink]) + mark);
        }
    }

    private static void promise26() {
        PenLines x = new PenLines();
        for (int sheet = 7; sheet >= 0; sheet--) {
            x.sheet(sheet, sheet % 3, 0);
            C.due("26: sheets of no items", x.count(0), 8 - sheet);
        }
        for (int sheet = 0; sheet < 8; sheet++) {
            C.due("5: none", x.drop(sheet), 0);
            C.due("26: sheets of no items that are left", x.count(0), 7 - sheet);
        }
        PenLines y = fourInks();
        C.due("26: inks, not pieces", y.count(1), 4);
        C.due("26: dots, not pieces", y.count(2), 2);
        C.due("26: forms", y.count(3), 10);
    }
}
