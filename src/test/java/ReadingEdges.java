import java.util.Arrays;

/** Promises 17 to 21, edge by edge: readings by THE LIST, open ones, words found, taught, untaught. */
public final class ReadingEdges {
    private static final Checks C = new Checks();
    private static final int NONE = Checks.NONE, BAD = Checks.BAD, STATE = Checks.STATE, FULL = Checks.FULL;
    private static final int LEAST = Checks.LEAST, MOST = Checks.MOST, DOT = Checks.DOT;
    private static final int A = 0, B = 1, D = 3, E = 4, F = 5, G = 6, H = 7, I = 8, J = 9, K = 10, Z = 25;
    private static final int[] TWELVE = new int[12];

    public static void main(String[] args) {
        promise17();
        promise17Thirty();
        promise17CostByCount();
        promise17CostByDots();
        promise17Rows();
        promise17Least();
        promise17Pieces();
        promise18();
        promise18Five();
        promise18Letters();
        promise18CostByPair();
        promise18Order();
        promise18FullHeaps();
        promise18Many();
        promise18Once();
        promise18Behind();
        promise18Pieces();
        promise19();
        promise19Told();
        promise20();
        promise20Ties();
        promise20Longest();
        promise20ByDots();
        promise20Most();
        promise20Fifty();
        promise21();
        promise21Told();
        C.end("ReadingEdges");
    }

    /** A form is seen so often, be it above 99. */
    private static void see(PenLines x, int letter, int shape, int often) {
        for (int left = often; left > 0; left -= 99) {
            x.form(letter, 1, shape, 0, 0, Math.min(99, left));
        }
    }

    private static void seePair(PenLines x, int a, int b, int often) {
        for (int left = often; left > 0; left -= 99) {
            x.pair(a, b, Math.min(99, left));
        }
    }

    private static void promise17() {
        PenLines x = new PenLines();
        C.due("17: no ink in an empty line", x.listed(0, 0, 0), BAD);
        Checks.write(x, 0, 0, 100, 0, 200, 1);
        Checks.put(x, A);
        C.due("17: without forms there is none", x.listed(0, 0, 0), NONE);
        x.form(A, 1, 0, 0, 0, 1);
        x.form(B, 1, 1, 0, 0, 2);
        Checks.put(x, B);
        C.due("17: ink 0, place", x.listed(0, 0, 0), 0);
        C.due("17: ink 0, cost", x.listed(0, 0, 1), 6);
        C.due("17: ink 2 of 3, place", x.listed(2, 0, 0), 1);
        C.due("17: ink 2 of 3, cost", x.listed(2, 0, 1), 4);
        C.all("17: inks that are none", BAD, x.listed(-1, 0, 0), x.listed(3, 0, 0), x.listed(LEAST, 0, 1), x.listed(MOST, 0, 1));
        C.all("17: what is none", BAD, x.listed(0, 0, -1), x.listed(0, 0, 2), x.listed(0, 0, LEAST), x.listed(0, 0, MOST));
        C.all("17: not so many", NONE, x.listed(0, 1, 0), x.listed(0, 1, 1), x.listed(0, 30, 0), x.listed(0, MOST, 1));
        C.all("17: i below 0", NONE, x.listed(0, -1, 0), x.listed(0, -1, 1), x.listed(0, LEAST, 0));
        C.all("17: BAD goes ahead of NONE", BAD, x.listed(3, -1, 0), x.listed(0, -1, 2), x.listed(0, 5, -1));
    }

    /** THE LIST has 30 at most: all of them are told. */
    private static void promise17Thirty() {
        PenLines x = new PenLines();
        Checks.writeShapes(x, 0, 0);
        for (int letter = A; letter <= F; letter++) {
            x.form(letter, 1, 0, 0, 0, 12);
        }
        for (int place = 0; place < 30; place++) {
            Checks.put(x, F - place % 6, F - place / 6);
        }
        for (int place = 0; place < 30; place++) {
            C.due("17: of the same cost as they stand in the list " + place, x.listed(0, place, 0), place);
            C.due("17: cost of " + place, x.listed(0, place, 1), 0);
        }
        C.due("17: no thirty-first", x.listed(0, 30, 0), NONE);
    }

    /** 12 by a number that is 1 more than COUNT, cut. */
    private static void promise17CostByCount() {
        int[] count = {1, 2, 3, 4, 5, 6, 7, 8, 9, 10, 11, 12, 13, 99, 998, 999};
        int[] cost = {6, 4, 3, 2, 2, 1, 1, 1, 1, 1, 1, 0, 0, 0, 0, 0};
        for (int k = 0; k < count.length; k++) {
            PenLines x = new PenLines();
            Checks.writeShapes(x, 11);
            Checks.put(x, Z);
            C.due("17: a form of count 0 reads nothing", x.listed(0, 0, 1), NONE);
            see(x, Z, 11, count[k]);
            C.due("17: cost by count " + count[k], x.listed(0, 0, 1), cost[k]);
            C.due("18: cost by count " + count[k], x.open(0, 0, -1), cost[k]);
        }
    }

    /** 5 more, if it is DOTTED and none of its PIECES has a DOT; 4 more, if it is not DOTTED and one has (or more). */
    private static void promise17CostByDots() {
        int[] letters = {A, H, I, J, K, Z};
        int[] without = {0, 0, 5, 5, 0, 0};
        int[] with = {4, 4, 0, 0, 4, 4};
        for (int k = 0; k < letters.length; k++) {
            PenLines x = new PenLines();
            see(x, letters[k], 0, 12);
            x.form(letters[k], 3, 0, 0, 0, 12);
            Checks.put(x, letters[k]);
            Checks.write(x, 50, 0);
            C.due("17: without a dot, letter " + letters[k], x.listed(0, 0, 1), without[k]);
            Checks.write(x, 50, 0, 44, DOT, 56, DOT);
            C.due("17: with two loose ones", x.listed(0, 0, 1), without[k]);
            Checks.write(x, 50, 0, 45, DOT);
            C.due("17: with a dot", x.listed(0, 0, 1), with[k]);
            Checks.write(x, 50, 0, 45, DOT, 50, DOT, 55, DOT);
            C.due("17: with three dots", x.listed(0, 0, 1), with[k]);
            for (int at = 0; at < 3; at++) {
                Checks.write(x, 50, 0, 60, 0, 70, 0, 50 + 10 * at, DOT);
                C.due("17: with a dot on piece " + at + " of its three", x.listed(0, 0, 1), with[k]);
            }
            Checks.write(x, 50, 0, 60, 0, 70, 0, 50, DOT, 60, DOT, 70, DOT);
            C.due("17: with a dot on each of its three", x.listed(0, 0, 1), with[k]);
            Checks.write(x, 50, 0, 60, 0, 70, 0);
            C.due("17: three without a dot", x.listed(0, 0, 1), without[k]);
        }
    }

    /** PIECES parted into rows of 1 to 3, all of them, each with a FORM of just these shapes. */
    private static void promise17Rows() {
        PenLines x = new PenLines();
        Checks.put(x, A);
        Checks.put(x, A, A);
        x.form(A, 1, 0, 0, 0, 1);
        x.form(A, 2, 0, 1, 0, 1);
        x.form(A, 3, 0, 1, 2, 1);
        Checks.writeShapes(x, 0);
        C.due("17: a row of 1", x.listed(0, 0, 0), 0);
        C.due("17: it alone", x.listed(0, 1, 0), NONE);
        Checks.writeShapes(x, 0, 1);
        C.due("17: a row of 2", x.listed(0, 0, 0), 0);
        C.due("17: it alone, too", x.listed(0, 1, 0), NONE);
        Checks.writeShapes(x, 0, 1, 2);
        C.due("17: a row of 3", x.listed(0, 0, 0), 0);
        C.due("17: and no other", x.listed(0, 1, 0), NONE);
        Checks.writeShapes(x, 0, 1, 2, 0);
        C.due("17: a row of 3, and one of 1", x.listed(0, 0, 0), 1);
        C.due("17: no row of 4", x.listed(0, 1, 0), NONE);
        Checks.writeShapes(x, 1, 0);
        C.due("17: shapes in another order", x.listed(0, 0, 0), NONE);
        Checks.writeShapes(x, 0, 1, 1);
        C.due("17: a piece is left over", x.listed(0, 0, 0), NONE);
        Checks.writeShapes(x, 0, 2);
        C.due("17: only the beginning of a form", x.listed(0, 0, 0), NONE);
    }

    /** Each at its least COST; no pairs in it. */
    private static void promise17Least() {
        PenLines x = new PenLines();
        Checks.writeShapes(x, 0, 0, 0, 0);
        Checks.put(x, A, A);
        x.form(A, 1, 0, 0, 0, 1);
        x.form(A, 3, 0, 0, 0, 2);
        C.due("17: 1 and 3", x.listed(0, 0, 1), 6 + 4);
        x.form(A, 2, 0, 0, 0, 2);
        C.due("17: 2 and 2 is less", x.listed(0, 0, 1), 4 + 4);
        x.form(A, 1, 0, 0, 0, 5);
        C.due("17: 1 and 3 is less again", x.listed(0, 0, 1), 1 + 4);
        x.pair(A, A, 99);
        C.due("17: pairs cost nothing here", x.listed(0, 0, 1), 1 + 4);
        C.due("17: it is told once", x.listed(0, 1, 0), NONE);
        Checks.put(x, A, A, A, A);
        C.due("17: the lesser cost goes ahead", x.listed(0, 0, 0), 1);
        C.due("17: its cost", x.listed(0, 0, 1), 4);
        C.due("17: behind it the other", x.listed(0, 1, 0), 0);
    }

    /** An INK with more than 14 PIECES has no READINGS; DOTS are none of them. */
    private static void promise17Pieces() {
        PenLines x = new PenLines();
        x.form(A, 2, 0, 0, 0, 1);
        x.form(A, 1, 0, 0, 0, 1);
        Checks.put(x, A, A, A, A, A, A, A);
        Checks.put(x, A, A, A, A, A, A, A, A);
        Checks.writeShapes(x, new int[14]);
        C.due("17: 14 pieces", x.listed(0, 0, 0), 0);
        C.due("17: cost of 14 pieces", x.listed(0, 0, 1), 42);
        C.due("17: 14 pieces, eight letters", x.listed(0, 1, 1), 48);
        Checks.writeShapes(x, new int[15]);
        C.due("17: 15 pieces", x.listed(0, 0, 0), NONE);
        Checks.writeShapes(x, 0, 0, 0, 0, 0, 0, 0, 0, 0, 0, 0, 0, 0, 0, DOT, DOT, DOT);
        C.due("17: 14 pieces and three dots, two of them loose", x.listed(0, 0, 1), 42 + 4);
        C.due("17: one of these is joined", x.ink(0, 2), 1);
        Checks.writeShapes(x, new int[40]);
        C.due("17: 40 pieces", x.listed(0, 0, 0), NONE);
        C.due("18: 40 pieces", x.open(0, 0, -1), NONE);
    }

    private static void promise18() {
        PenLines x = new PenLines();
        C.due("18: no ink in an empty line", x.open(0, 0, -1), BAD);
        Checks.write(x, 0, 0, 100, 0, 105, 1);
        C.all("18: without forms there is none", NONE, x.open(0, 0, -2), x.open(0, 4, 11), x.open(1, 0, 0));
        x.form(A, 1, 0, 0, 0, 1);
        x.form(B, 1, 1, 0, 0, 1);
        C.due("18: cost", x.open(0, 0, -1), 6);
        C.due("18: letters", x.open(0, 0, -2), 1);
        C.due("18: letter 0", x.open(0, 0, 0), A);
        C.all("18: no letter 1 to 11", NONE, x.open(0, 0, 1), x.open(0, 0, 2), x.open(0, 0, 11));
        C.due("18: the last ink", x.open(1, 0, 1), B);
        C.due("18: its cost", x.open(1, 0, -1), 6 + 6 + 6);
        C.due("18: behind its letters", x.open(1, 0, 2), NONE);
        C.all("18: inks that are none", BAD, x.open(-1, 0, 0), x.open(2, 0, 0), x.open(LEAST, 0, 0), x.open(MOST, 0, 0));
        C.all("18: readings that are never told", BAD, x.open(0, -1, 0), x.open(0, 5, 0), x.open(0, LEAST, 0), x.open(0, MOST, 0));
        C.all("18: what is none", BAD, x.open(0, 0, -3), x.open(0, 0, 12), x.open(0, 0, LEAST), x.open(0, 0, MOST));
        C.all("18: BAD goes ahead of NONE", BAD, x.open(0, 4, 12), x.open(0, 4, -3), x.open(2, 4, 0), x.open(0, 5, 5));
        C.all("18: not so many readings", NONE, x.open(0, 1, 0), x.open(0, 4, -1), x.open(0, 4, -2));
    }

    /** The first five are told. */
    private static void promise18Five() {
        for (int many = 0; many <= 7; many++) {
            PenLines x = new PenLines();
            Checks.writeShapes(x, 0);
            for (int letter = 0; letter < many; letter++) {
                see(x, Z - letter, 0, letter + 1);
            }
            int told = 0;
            while (told < 5 && x.open(0, told, -2) == 1) {
                told++;
            }
            C.due("18: told of " + many, told, Math.min(5, many));
            int[] cost = {0, 6, 4, 3, 2, 2, 1, 1};
            for (int i = 0; i < told; i++) {
                C.due("18: cost of reading " + i + " of " + many, x.open(0, i, -1), cost[many - i]);
            }
            C.due("18: reading 4 of " + many, x.open(0, 4, -1) == NONE ? 0 : 1, many >= 5 ? 1 : 0);
            C.due("18: reading 5 of " + many, x.open(0, 5, -1), BAD);
        }
    }

    /** Rows of 1 to 12 LETTERS. */
    private static void promise18Letters() {
        PenLines x = new PenLines();
        for (int letter = 0; letter < 12; letter++) {
            x.form(Z - letter, 1, letter % 12, 0, 0, 12);
        }
        Checks.writeShapes(x, 0, 1, 2, 3, 4, 5, 6, 7, 8, 9, 10, 11);
        C.due("18: twelve letters", x.open(0, 0, -2), 12);
        for (int what = 0; what < 12; what++) {
            C.due("18: letter " + what + " of twelve", x.open(0, 0, what), Z - what);
        }
        C.due("18: their cost is pairs alone", x.open(0, 0, -1), 66);
        Checks.writeShapes(x, 0, 1, 2, 3, 4, 5, 6, 7, 8, 9, 10, 11, 0);
        C.due("18: thirteen letters are none", x.open(0, 0, -2), NONE);
        x.form(A, 2, 11, 0, 0, 1);
        C.due("18: twelve letters of thirteen pieces", x.open(0, 0, 11), A);
        C.due("18: they alone", x.open(0, 1, 0), NONE);
        Checks.writeShapes(x, 11, 0, 2, 3, 4, 5, 6, 7, 8, 9, 10, 11, 11, 0);
        C.due("18: twelve letters of fourteen pieces", x.open(0, 0, -2), 12);
        C.due("18: at both ends", x.open(0, 0, 0) * 100 + x.open(0, 0, 11), 0);
        x = new PenLines();
        x.form(B, 3, 0, 0, 0, 1);
        Checks.writeShapes(x, 0, 0, 0);
        C.opens("18: one letter of three pieces", x, 0, "6 b");
        Checks.writeShapes(x, new int[12]);
        C.opens("18: four letters of twelve pieces", x, 0, "42 bbbb");
        Checks.writeShapes(x, new int[14]);
        C.opens("18: two pieces are left over", x, 0);
    }

    /** For each LETTER but the first 6 by a number that is 1 more than the COUNT of the PAIR, cut. */
    private static void promise18CostByPair() {
        int[] count = {0, 1, 2, 3, 4, 5, 6, 7, 99, 998, 999};
        int[] cost = {6, 3, 2, 1, 1, 1, 0, 0, 0, 0, 0};
        for (int k = 0; k < count.length; k++) {
            PenLines x = new PenLines();
            see(x, A, 0, 12);
            see(x, Z, 1, 12);
            seePair(x, Z, A, count[k]);
            Checks.writeShapes(x, 1, 0);
            C.opens("18: cost by pair " + count[k], x, 0, cost[k] + " za");
            Checks.writeShapes(x, 0, 1);
            C.opens("18: the pair the other way", x, 0, "6 az");
            Checks.writeShapes(x, 1, 0, 1, 0);
            C.opens("18: three pairs, two of them the same", x, 0, 2 * cost[k] + 6 + " zaza");
            Checks.writeShapes(x, 1);
            C.opens("18: the first letter has no pair", x, 0, "0 z");
        }
    }

    /** By COST, then by LETTERS, the lesser first (one that is the beginning of another ahead of it). */
    private static void promise18Order() {
        PenLines x = new PenLines();
        Checks.writeShapes(x, 0, 0, 0);
        see(x, A, 0, 12);
        x.form(A, 2, 0, 0, 0, 12);
        x.form(A, 3, 0, 0, 0, 12);
        x.pair(A, A, 6);
        C.opens("18: a beginning ahead, twice", x, 0, "0 a", "0 aa", "0 aaa");
        x.form(B, 3, 0, 0, 0, 12);
        C.opens("18: the lesser letter ahead of the shorter row", x, 0, "0 a", "0 aa", "0 aaa", "0 b");
        x.form(E, 1, 0, 0, 0, 12);
        x.pair(A, E, 6);
        x.pair(E, A, 6);
        x.pair(E, E, 6);
        C.opens("18: by letters from the first on", x, 0, "0 a", "0 aa", "0 aaa", "0 aae", "0 ae");
        x.form(Z, 3, 0, 0, 0, 99);
        x.form(D, 3, 0, 0, 0, 11);
        C.opens("18: a lesser cost goes ahead of lesser letters only", x, 0, "0 a", "0 aa", "0 aaa", "0 aae", "0 ae");
        PenLines y = new PenLines();
        Checks.writeShapes(y, 0, 0);
        see(y, A, 0, 4);
        see(y, Z, 0, 5);
        C.opens("18: of the same cost by letters", y, 0, "10 aa", "10 az", "10 za", "10 zz");
        see(y, Z, 0, 1);
        C.opens("18: by cost ahead of letters", y, 0, "8 zz", "9 az", "9 za", "10 aa");
    }

    /** Five readings of a longer beginning do not keep back one that is better, or as good and lesser. */
    private static void promise18FullHeaps() {
        PenLines x = new PenLines();
        Checks.writeShapes(x, 0, 1, 2);
        x.form(A, 1, 0, 0, 0, 12);
        x.form(A, 2, 0, 1, 0, 12);
        for (int letter = E; letter < E + 6; letter++) {
            x.form(letter == I ? K : letter == J ? K + 1 : letter, 2, 1, 2, 0, 12);
        }
        C.opens("18: five by the short row", x, 0, "6 ae", "6 af", "6 ag", "6 ah", "6 ak");
        x.form(F + 1, 1, 2, 0, 0, 12);
        C.opens("18: one of them by the long row, too", x, 0, "6 ae", "6 af", "6 ag", "6 ah", "6 ak");
        x.form(B, 1, 2, 0, 0, 12);
        C.opens("18: a lesser one by the long row", x, 0, "6 ab", "6 ae", "6 af", "6 ag", "6 ah");
        x.form(Z, 1, 2, 0, 0, 12);
        C.opens("18: a greater one by the long row", x, 0, "6 ab", "6 ae", "6 af", "6 ag", "6 ah");
        x.pair(A, Z, 1);
        C.opens("18: a better one by the long row", x, 0, "3 az", "6 ab", "6 ae", "6 af", "6 ag");
        PenLines y = new PenLines();
        Checks.writeShapes(y, 0, 1, 2);
        y.form(A, 1, 0, 0, 0, 12);
        y.form(A, 2, 0, 1, 0, 12);
        for (int letter = D; letter <= G; letter++) {
            y.form(letter, 2, 1, 2, 0, 12);
        }
        y.form(H, 2, 1, 2, 0, 1);
        C.opens("18: four and a dear one", y, 0, "6 ad", "6 ae", "6 af", "6 ag", "12 ah");
        y.form(Z, 1, 2, 0, 0, 2);
        C.opens("18: one in between by the long row", y, 0, "6 ad", "6 ae", "6 af", "6 ag", "10 az");
    }

    /** Two letters of the same cost wherever they stand: the first five differ in their last letters alone. */
    private static void promise18Many() {
        int[][] twos = {{A, B}, {Z - 1, Z}, {D, Z}, {A, Z}, {H, K}};
        for (int[] two : twos) {
            for (int often = 1; often <= 12; often += 11) {
                for (int n = 1; n <= 12; n++) {
                    PenLines x = new PenLines();
                    see(x, two[0], 0, often);
                    see(x, two[1], 0, often);
                    Checks.writeShapes(x, Arrays.copyOf(TWELVE, n));
                    String[] due = new String[Math.min(5, 1 << n)];
                    for (int i = 0; i < due.length; i++) {
                        StringBuilder text = new StringBuilder().append(n * (often == 1 ? 12 : 6) - 6).append(' ');
                        for (int k = n - 1; k >= 0; k--) {
                            text.append((char) ('a' + two[i >> k & 1]));
                        }
                        due[i] = text.toString();
                    }
                    C.opens("18: letters " + two[0] + " and " + two[1] + ", " + n + " pieces", x, 0, due);
                }
            }
        }
    }

    /** Told once, at its least COST, wherever among the others it stood by the parting that costs more. */
    private static void promise18Once() {
        int[] heads = {A, D, Z};
        for (int head : heads) {
            PenLines x = new PenLines();
            Checks.writeShapes(x, 0, 1, 2);
            x.form(head, 1, 0, 0, 0, 12);
            x.form(A, 2, 1, 2, 0, 12);
            x.form(B, 2, 1, 2, 0, 1);
            x.form(E, 2, 1, 2, 0, 6);
            String h = "" + (char) ('a' + head);
            C.opens("18: by one parting", x, 0, "6 " + h + "a", "7 " + h + "e", "12 " + h + "b");
            x.form(head, 2, 0, 1, 0, 12);
            x.form(B, 1, 2, 0, 0, 6);
            C.opens("18: once, and it goes ahead", x, 0, "6 " + h + "a", "7 " + h + "b", "7 " + h + "e");
            x.form(B, 1, 2, 0, 0, 6);
            C.opens("18: once, and further ahead", x, 0, "6 " + h + "a", "6 " + h + "b", "7 " + h + "e");
            x.form(A, 1, 2, 0, 0, 1);
            x.form(E, 1, 2, 0, 0, 1);
            C.opens("18: once, at the cost that is less", x, 0, "6 " + h + "a", "6 " + h + "b", "7 " + h + "e");
            x.pair(head, B, 6);
            C.opens("18: once, and first", x, 0, "0 " + h + "b", "6 " + h + "a", "7 " + h + "e");
        }
    }

    /** What comes by a longer row, or by a greater letter behind, may be the better one, or as good and lesser. */
    private static void promise18Behind() {
        int[] heads = {A, D, H, Z};
        for (int head : heads) {
            PenLines x = new PenLines();
            String h = "" + (char) ('a' + head);
            Checks.writeShapes(x, 0, 1, 2, 3, 4);
            x.form(head, 1, 0, 0, 0, 12);
            x.form(head, 2, 0, 1, 0, 12);
            x.form(Z, 3, 1, 2, 3, 12);
            x.form(E, 2, 2, 3, 0, 12);
            see(x, B, 4, 12);
            C.opens("18: as good, lesser by the longer row", x, 0, "12 " + h + "eb", "12 " + h + "zb");
            x.pair(head, Z, 1);
            C.opens("18: better by the greater letter", x, 0, "9 " + h + "zb", "12 " + h + "eb");
            for (int letter = F; letter <= H; letter++) {
                x.form(letter, 3, 1, 2, 3, 12);
            }
            C.opens("18: five by two rows", x, 0, "9 " + h + "zb", "12 " + h + "eb", "12 " + h + "fb", "12 " + h + "gb",
                    "12 " + h + "hb");
            see(x, D, 4, 12);
            x.pair(Z, D, 6);
            C.opens("18: better by the last letter", x, 0, "3 " + h + "zd", "9 " + h + "zb", "12 " + h + "eb",
                    "12 " + h + "ed", "12 " + h + "fb");
            x.pair(head, E, 6);
            C.opens("18: better by the first pair of the longer row", x, 0, "3 " + h + "zd", "6 " + h + "eb",
                    "6 " + h + "ed", "9 " + h + "zb", "12 " + h + "fb");
        }
    }

    private static void promise18Pieces() {
        for (int n = 1; n <= 16; n++) {
            PenLines x = new PenLines();
            x.form(A, 1, 0, 0, 0, 1);
            x.form(A, 2, 0, 0, 0, 1);
            x.form(A, 3, 0, 0, 0, 1);
            Checks.writeShapes(x, Arrays.copyOf(TWELVE, n));
            int letters = (n + 2) / 3;
            C.due("18: fewest letters of " + n + " pieces", x.open(0, 0, -2), n <= 14 ? letters : NONE);
            C.due("18: their cost", x.open(0, 0, -1), n <= 14 ? 12 * letters - 6 : NONE);
            C.due("22: kind of " + n + " pieces", x.kind(0), n <= 14 ? 2 : 0);
            Checks.spell(x, A, A, A, A, A, A, A, A, A, A, A, A);
            C.due("20: twelve letters of " + n + " pieces", x.teach(0), n >= 12 && n <= 14 ? 12 : STATE);
        }
    }

    private static void promise19() {
        PenLines x = new PenLines();
        C.all("19: the word is empty", STATE, x.find(0), x.find(1), x.find(-1), x.find(LEAST), x.find(MOST));
        Checks.spell(x, A);
        C.all("19: an empty line", NONE, x.find(0), x.find(-1));
        x.gap(1);
        x.sheet(0, 2, 80);
        for (int k = 0; k < 40; k++) {
            x.set(0, 2 * k, 50 * k);
        }
        x.line(0, 0, 40);
        C.due("19: no form", x.find(0), NONE);
        x.form(A, 1, 0, 0, 0, 1);
        C.due("19: the first", x.find(0), 0);
        C.due("19: the last of forty", x.find(39), 39);
        C.all("19: not so many", NONE, x.find(40), x.find(-1), x.find(LEAST), x.find(MOST));
        C.due("19: the word stays", x.count(6), 1);
        x.set(0, 1, 1);
        x.set(0, 5, 1);
        x.line(0, 0, 40);
        C.due("19: the first one is the second ink", x.find(0), 1);
        C.due("19: the second one is the fourth ink", x.find(1), 3);
        C.due("19: the last one", x.find(37), 39);
        C.due("19: not so many as there were", x.find(38), NONE);
        Checks.spell(x, A);
        C.due("19: a longer word", x.find(0), NONE);
        x.wipe();
        C.due("19: the word is empty again", x.find(0), STATE);
    }

    /** Among its OPEN READINGS told: the first five. */
    private static void promise19Told() {
        PenLines x = new PenLines();
        Checks.writeShapes(x, 0);
        for (int letter = A; letter <= F; letter++) {
            x.form(letter, 1, 0, 0, 0, 1);
        }
        for (int letter = A; letter <= F; letter++) {
            x.letter(letter);
            C.due("19: letter " + letter + " of six as good", x.find(0), letter <= E ? 0 : NONE);
            C.due("19: it alone", x.find(1), NONE);
            x.wipe();
        }
        Checks.spell(x, F);
        C.due("19: that it is in the list", x.list() + x.letter(F), 1);
        C.due("19: has nothing to do with it", x.find(0), NONE);
        x.form(F, 1, 0, 0, 0, 1);
        C.due("19: now it is the first", x.find(0), 0);
        x.wipe();
        Checks.spell(x, E);
        C.due("19: and this the sixth", x.find(0), NONE);
    }

    private static void promise20() {
        PenLines x = new PenLines();
        Checks.spell(x, A);
        C.due("20: no ink in an empty line", x.teach(0), BAD);
        Checks.write(x, 0, 0, 100, 0, 105, 0);
        C.all("20: inks that are none", BAD, x.teach(-1), x.teach(2), x.teach(LEAST), x.teach(MOST));
        C.all("20: no reading spells it", STATE, x.teach(0), x.teach(1));
        x.form(A, 1, 0, 0, 0, 1);
        C.due("20: nor a part of the pieces", x.teach(1), STATE);
        C.due("20: the word stays", x.count(6), 1);
        C.due("20: one letter", x.teach(0), 1);
        C.due("20: its form", x.seen(A, 1, 0, 0, 0), 2);
        C.due("20: no pair", x.count(4), 0);
        C.due("20: the word is empty then", x.count(6), 0);
        C.all("20: the word is empty", STATE, x.teach(0), x.teach(1));
        C.due("20: BAD goes ahead of it", x.teach(2), BAD);
        Checks.writeShapes(x, new int[15]);
        C.due("20: the word is empty, and an ink of 15 pieces", x.teach(0), STATE);
        C.due("20: nothing is taught then", x.count(7), 1);
        Checks.writeShapes(x, TWELVE);
        Checks.spell(x, A, A, A, A, A, A, A, A, A, A, A, A);
        C.due("20: twelve letters", x.teach(0), 12);
        C.due("20: twelve forms", x.seen(A, 1, 0, 0, 0), 14);
        C.due("20: eleven pairs", x.pair(A, A, 1), 12);
        C.due("20: two teachings", x.count(7), 2);
    }

    private static void rows(String what, PenLines x, int... due) {
        C.due("20: " + what + ", rows of 1", x.seen(A, 1, 0, 0, 0), due[0]);
        C.due("20: " + what + ", rows of 2", x.seen(A, 2, 0, 0, 0), due[1]);
        C.due("20: " + what + ", rows of 3", x.seen(A, 3, 0, 0, 0), due[2]);
    }

    /** Of several that with the longer row at the first place where they part. */
    private static void promise20Ties() {
        PenLines x = new PenLines();
        x.form(A, 1, 0, 0, 0, 1);
        x.form(A, 2, 0, 0, 0, 1);
        x.form(A, 3, 0, 0, 0, 1);
        Checks.writeShapes(x, new int[4]);
        Checks.spell(x, A, A);
        x.teach(0);
        rows("3 and 1, not 2 and 2", x, 2, 1, 2);
        x.form(A, 2, 0, 0, 0, 2);
        Checks.spell(x, A, A);
        x.teach(0);
        rows("2 and 2, which cost less", x, 2, 5, 2);
        x.unteach();
        x.unteach();
        rows("untaught", x, 1, 1, 1);
        x.form(A, 2, 0, 0, 0, 11);
        Checks.writeShapes(x, new int[5]);
        Checks.spell(x, A, A, A);
        x.teach(0);
        rows("2, 2, 1", x, 2, 14, 1);
        int[] shapes = {0, 1, 2, 3, 4, 5, 6};
        PenLines y = new PenLines();
        Checks.writeShapes(y, shapes);
        for (int at = 0; at < 7; at++) {
            y.form(B, 1, at, 0, 0, 1);
            y.form(B, 2, at, Math.min(11, at + 1), 0, 1);
        }
        Checks.spell(y, B, B, B, B, B);
        C.due("20: five letters of seven pieces", y.teach(0), 5);
        for (int at = 0; at < 7; at++) {
            C.due("20: a row of 1 from " + at, y.seen(B, 1, at, 0, 0), at >= 4 ? 2 : 1);
            C.due("20: a row of 2 from " + at, y.seen(B, 2, at, at + 1, 0), at == 0 || at == 2 ? 2 : 1);
        }
        C.due("20: four pairs", y.pair(B, B, 1), 5);
    }

    /** Where every row costs the same: the longest that leaves a piece for each letter behind it, from the first on. */
    private static void promise20Longest() {
        for (int pieces = 1; pieces <= 14; pieces++) {
            for (int letters = 1; letters <= 12; letters++) {
                PenLines x = new PenLines();
                Checks.writeShapes(x, Arrays.copyOf(new int[14], pieces));
                int[] due = {1, 1, 1};
                int left = pieces;
                for (int k = 0; k < letters; k++) {
                    x.letter(A);
                    int row = Math.max(1, Math.min(3, left - (letters - 1 - k)));
                    due[row - 1]++;
                    left -= row;
                }
                for (int row = 1; row <= 3; row++) {
                    x.form(A, row, 0, 0, 0, 1);
                }
                String what = letters + " letters of " + pieces + " pieces";
                C.due("20: " + what, x.teach(0), left == 0 ? letters : STATE);
                if (left == 0) {
                    rows(what, x, due);
                }
            }
        }
    }

    /** By THE LIST's rule: dots cost there, too. */
    private static void promise20ByDots() {
        PenLines x = new PenLines();
        Checks.write(x, 0, 0, 10, 1, 20, 2, 10, DOT);
        x.form(A, 1, 0, 0, 0, 1);
        x.form(A, 2, 0, 1, 0, 1);
        x.form(I, 2, 1, 2, 0, 1);
        x.form(I, 1, 2, 0, 0, 1);
        Checks.put(x, A, I);
        C.due("20: the dot over the second letter", x.listed(0, 0, 1), 12);
        Checks.spell(x, A, I);
        x.teach(0);
        C.due("20: the short row, as the dot is not over it", x.seen(A, 1, 0, 0, 0), 2);
        C.due("20: the row under the dot", x.seen(I, 2, 1, 2, 0), 2);
        C.due("20: not the long row", x.seen(A, 2, 0, 1, 0), 1);
        C.due("20: nor what is left by it", x.seen(I, 1, 2, 0, 0), 1);
    }

    /** None above 999. */
    private static void promise20Most() {
        for (int below = 0; below <= 3; below++) {
            PenLines x = new PenLines();
            Checks.writeShapes(x, 0, 0, 0);
            see(x, A, 0, 999 - below);
            seePair(x, A, A, 999 - below);
            Checks.spell(x, A, A, A);
            C.due("20: three letters", x.teach(0), 3);
            C.due("20: forms, from " + below + " below", x.seen(A, 1, 0, 0, 0), below <= 3 ? 999 : 0);
            Checks.spell(x, A, A, A);
            x.teach(0);
            C.due("20: forms, and again", x.seen(A, 1, 0, 0, 0), 999);
            C.due("21: untaught", x.unteach(), 1);
            C.due("21: forms of the first teaching", x.seen(A, 1, 0, 0, 0), 999);
            C.due("21: untaught, too", x.unteach(), 0);
            C.due("21: forms as they were ahead", x.seen(A, 1, 0, 0, 0), 999 - below);
            C.due("21: pairs as they were ahead, and one more", x.pair(A, A, 1), Math.min(999, 1000 - below));
        }
        PenLines x = new PenLines();
        Checks.writeShapes(x, 0, 0, 0);
        see(x, A, 0, 995);
        Checks.spell(x, A, A, A);
        x.teach(0);
        C.due("20: forms to 998", x.seen(A, 1, 0, 0, 0), 998);
        C.due("20: pairs to 2", x.pair(A, A, 1), 3);
    }

    /** FULL: 50 are not untaught. */
    private static void promise20Fifty() {
        PenLines x = new PenLines();
        Checks.writeShapes(x, 0);
        x.form(A, 1, 0, 0, 0, 1);
        for (int k = 1; k <= 50; k++) {
            Checks.spell(x, A);
            C.due("20: teaching " + k, x.teach(0), 1);
            C.due("20: teachings", x.count(7), k);
        }
        Checks.spell(x, A);
        C.due("20: a fifty-first", x.teach(0), FULL);
        C.due("20: the word stays", x.count(6), 1);
        C.due("20: fifty, still", x.count(7), 50);
        C.due("20: counts stay", x.seen(A, 1, 0, 0, 0), 51);
        C.due("20: BAD goes ahead of full", x.teach(1), BAD);
        Checks.spell(x, A);
        C.due("20: no reading goes ahead of full", x.teach(0), STATE);
        x.wipe();
        C.due("20: the empty word goes ahead of full", x.teach(0), STATE);
        C.due("21: forty-nine are left", x.unteach(), 49);
        Checks.spell(x, A);
        C.due("20: a fiftieth again", x.teach(0), 1);
        Checks.spell(x, A);
        C.due("20: full again", x.teach(0), FULL);
    }

    private static void promise21() {
        PenLines x = new PenLines();
        C.due("21: there was none", x.unteach(), NONE);
        Checks.writeShapes(x, 0, 0);
        x.form(A, 1, 0, 0, 0, 1);
        for (int k = 0; k < 3; k++) {
            Checks.spell(x, A, A);
            x.teach(0);
        }
        C.due("21: three times taught", x.seen(A, 1, 0, 0, 0), 7);
        C.due("21: two are left", x.unteach(), 2);
        C.due("21: twice taught", x.seen(A, 1, 0, 0, 0), 5);
        Checks.spell(x, A, A);
        x.teach(0);
        C.due("21: two are left again", x.unteach(), 2);
        C.due("21: one is left", x.unteach(), 1);
        C.due("21: none is left", x.unteach(), 0);
        C.due("21: as ahead of all", x.seen(A, 1, 0, 0, 0), 1);
        C.due("21: no pair", x.count(4), 0);
        C.all("21: there is none", NONE, x.unteach(), x.unteach());
        C.due("21: none of them is counted", x.count(7), 0);
        C.due("21: nothing changes then", x.seen(A, 1, 0, 0, 0), 1);
        C.opens("21: readings are as ahead of all", x, 0, "18 aa");
    }

    /** What form(), pair() told since is gone, too; what they told ahead of it stays. */
    private static void promise21Told() {
        PenLines x = new PenLines();
        Checks.writeShapes(x, 0, 0);
        x.form(A, 1, 0, 0, 0, 1);
        x.pair(A, A, 2);
        Checks.spell(x, A, A);
        x.teach(0);
        C.due("21: told since, a form", x.form(A, 1, 0, 0, 0, 5), 8);
        C.due("21: told since, a new form", x.form(B, 3, 1, 2, 3, 5), 5);
        C.due("21: told since, a pair", x.pair(A, A, 5), 8);
        C.due("21: told since, a new pair", x.pair(B, Z, 5), 5);
        Checks.put(x, Z);
        x.gap(77);
        C.due("21: untaught", x.unteach(), 0);
        C.due("21: the form as ahead", x.seen(A, 1, 0, 0, 0), 1);
        C.due("21: the new form was never seen", x.seen(B, 3, 1, 2, 3), 0);
        C.due("21: the pair as ahead, and one more", x.pair(A, A, 1), 3);
        C.due("21: the new pair was never seen, and one more", x.pair(B, Z, 1), 1);
        C.due("21: the list stays", x.count(5), 1);
        C.due("21: the gap stays", x.gap(30), 77);
        x.form(A, 1, 0, 0, 0, 4);
        Checks.spell(x, A, A);
        x.teach(0);
        C.due("21: untaught again", x.unteach(), 0);
        C.due("21: what was told ahead of it stays", x.seen(A, 1, 0, 0, 0), 5);
        x.form(A, 1, 0, 0, 0, 99);
        C.due("21: with nothing taught, nothing is gone", x.unteach() == NONE ? x.seen(A, 1, 0, 0, 0) : 0, 104);
    }
}
