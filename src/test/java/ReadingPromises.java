/** Promises 17 to 21: readings by THE LIST, open ones, words found, taught and untaught. */
public final class ReadingPromises {
    private static final Checks C = new Checks();
    private static final int NONE = Checks.NONE, BAD = Checks.BAD, STATE = Checks.STATE, FULL = Checks.FULL;
    private static final int LEAST = Checks.LEAST, MOST = Checks.MOST, DOT = Checks.DOT;
    private static final int A = 0, B = 1, D = 3, E = 4, I = 8, J = 9;

    public static void main(String[] args) {
        promise17();
        promise17Order();
        promise18();
        costsOfForms();
        costsOfPairs();
        costsOfDots();
        leastCosts();
        orderOfOpenReadings();
        lengths();
        thirteenPieces();
        fourteenPieces();
        oneAfterAnother();
        promise19();
        promise20();
        promise20Rows();
        promise20Counts();
        promise20Full();
        promise21();
        promise21Told();
        promise21Long();
        C.end("ReadingPromises");
    }

    private static void promise17() {
        PenLines x = new PenLines();
        C.due("17: no ink", x.listed(0, 0, 0), BAD);
        Checks.writeShapes(x, 0, 1);
        x.form(A, 1, 0, 0, 0, 1);
        x.form(B, 1, 1, 0, 0, 3);
        x.form(D, 2, 0, 1, 0, 2);
        C.due("17: an empty list", x.listed(0, 0, 0), NONE);
        Checks.put(x, B, A);
        Checks.put(x, A, B);
        Checks.put(x, A);
        Checks.put(x, D);
        C.due("17: the best is the last of the list", x.listed(0, 0, 0), 3);
        C.due("17: its cost", x.listed(0, 0, 1), 4);
        C.due("17: the second", x.listed(0, 1, 0), 1);
        C.due("17: its cost has no pairs in it", x.listed(0, 1, 1), 9);
        x.pair(A, B, 99);
        C.due("17: nor when they are seen", x.listed(0, 1, 1), 9);
        C.all("17: not so many", NONE, x.listed(0, 2, 0), x.listed(0, 2, 1), x.listed(0, -1, 0), x.listed(0, 30, 1),
                x.listed(0, LEAST, 0), x.listed(0, MOST, 0));
        C.all("17: bad", BAD, x.listed(-1, 0, 0), x.listed(1, 0, 0), x.listed(0, 0, 2), x.listed(0, 0, -1),
                x.listed(0, -1, 2), x.listed(MOST, 0, 0), x.listed(0, 0, LEAST), x.listed(1, -1, 0));
        Checks.spell(x, A, A);
        x.form(A, 1, 1, 0, 0, 9);
        C.due("17: the word itself is not in the list", x.listed(0, 2, 0), NONE);
        x.list();
        C.due("17: now it is, and goes ahead", x.listed(0, 1, 0), 4);
        C.due("17: by its cost", x.listed(0, 1, 1), 7);
        C.due("17: the third", x.listed(0, 2, 0), 1);
    }

    private static void promise17Order() {
        PenLines x = new PenLines();
        Checks.writeShapes(x, 0);
        for (int letter = 0; letter < 26; letter++) {
            x.form(letter, 1, 0, 0, 0, letter % 2 == 0 ? 1 : 3);
        }
        for (int letter = 25; letter >= 0; letter--) {
            Checks.put(x, letter);
        }
        int[] rank = new int[26];
        int at = 0;
        for (int cost : new int[] {3, 6, 8, 11}) {
            for (int place = 0; place < 26; place++) {
                int letter = 25 - place;
                int own = (letter % 2 == 0 ? 6 : 3) + (letter == I || letter == J ? 5 : 0);
                if (own == cost) {
                    rank[at] = place;
                    at++;
                }
            }
        }
        for (int i = 0; i < 26; i++) {
            C.due("17: of the same cost as they stand in the list " + i, x.listed(0, i, 0), rank[i]);
        }
        C.due("17: no more", x.listed(0, 26, 0), NONE);
    }

    private static void promise18() {
        PenLines x = new PenLines();
        C.due("18: no ink", x.open(0, 0, -1), BAD);
        Checks.writeShapes(x, 0, 0);
        C.all("18: no readings", NONE, x.open(0, 0, -1), x.open(0, 4, -2), x.open(0, 0, 11));
        x.form(A, 1, 0, 0, 0, 2);
        x.form(B, 2, 0, 0, 0, 3);
        C.opens("18", x, 0, "3 b", "14 aa");
        C.due("18: letters", x.open(0, 1, -2), 2);
        C.due("18: a letter", x.open(0, 0, 0), B);
        C.all("18: not so many letters", NONE, x.open(0, 0, 1), x.open(0, 1, 2), x.open(0, 1, 11));
        C.all("18: not so many readings", NONE, x.open(0, 2, -1), x.open(0, 2, -2), x.open(0, 2, 0), x.open(0, 4, 0));
        C.all("18: bad", BAD, x.open(-1, 0, 0), x.open(1, 0, 0), x.open(0, -1, 0), x.open(0, 5, 0), x.open(0, 0, -3),
                x.open(0, 0, 12), x.open(LEAST, 0, 0), x.open(0, MOST, 0), x.open(0, 0, LEAST), x.open(0, 0, MOST));
        Checks.write(x, 0, 0, 50, 0, 55, 0);
        C.opens("18: the first ink", x, 0, "4 a");
        C.opens("18: the second ink", x, 1, "3 b", "14 aa");
        C.opens("18: the first ink again", x, 0, "4 a");
        x.gap(100);
        C.opens("18: parted anew", x, 0, "13 ab", "13 ba", "24 aaa");
        x.form(E, 3, 0, 0, 0, 99);
        C.opens("18: a form of three", x, 0, "0 e", "13 ab", "13 ba", "24 aaa");
        x.pair(B, A, 99);
        C.opens("18: a pair", x, 0, "0 e", "7 ba", "13 ab", "24 aaa");
        Checks.writeShapes(x, 0, 1);
        C.opens("18: another shape", x, 0);
    }

    private static void costsOfForms() {
        int[] count = {1, 2, 3, 4, 5, 6, 11, 12, 99};
        int[] cost = {6, 4, 3, 2, 2, 1, 1, 0, 0};
        for (int k = 0; k < count.length; k++) {
            PenLines x = new PenLines();
            Checks.writeShapes(x, 7);
            x.form(25, 1, 7, 0, 0, count[k]);
            C.opens("18: cost by count " + count[k], x, 0, cost[k] + " z");
        }
    }

    private static void costsOfPairs() {
        int[] count = {0, 1, 2, 3, 5, 6, 99};
        int[] cost = {6, 3, 2, 1, 1, 0, 0};
        for (int k = 0; k < count.length; k++) {
            PenLines x = new PenLines();
            Checks.writeShapes(x, 7, 7, 7);
            x.form(25, 1, 7, 0, 0, 99);
            x.pair(25, 24, 99);
            x.pair(25, 25, count[k]);
            C.opens("18: cost by pairs " + count[k], x, 0, 2 * cost[k] + " zzz");
        }
    }

    private static void costsOfDots() {
        PenLines x = new PenLines();
        x.form(A, 1, 0, 0, 0, 99);
        x.form(I, 1, 0, 0, 0, 99);
        x.form(J, 1, 0, 0, 0, 99);
        x.form(10, 1, 0, 0, 0, 99);
        x.form(7, 1, 0, 0, 0, 99);
        Checks.write(x, 0, 0);
        C.opens("18: cost without a dot", x, 0, "0 a", "0 h", "0 k", "5 i", "5 j");
        Checks.write(x, 0, 0, 0, DOT);
        C.opens("18: cost with a dot", x, 0, "0 i", "0 j", "4 a", "4 h", "4 k");
        Checks.write(x, 0, 0, 0, DOT, 5, DOT);
        C.opens("18: cost with two dots", x, 0, "0 i", "0 j", "4 a", "4 h", "4 k");
        Checks.write(x, 0, 0, 6, DOT);
        C.opens("18: cost with a loose dot", x, 0, "0 a", "0 h", "0 k", "5 i", "5 j");
        x = new PenLines();
        x.form(A, 3, 0, 0, 0, 99);
        x.form(I, 3, 0, 0, 0, 99);
        Checks.write(x, 0, 0, 10, 0, 20, 0, 20, DOT, 0, DOT);
        C.opens("18: cost of a row with dots on two of its pieces", x, 0, "0 i", "4 a");
        Checks.write(x, 0, 0, 10, 0, 20, 0);
        C.opens("18: cost of a row with none", x, 0, "0 a", "5 i");
        Checks.write(x, 0, 0, 10, 0, 20, 0, 10, DOT);
        C.opens("18: cost of a row with a dot in the middle", x, 0, "0 i", "4 a");
        x.form(A, 1, 0, 0, 0, 99);
        x.form(I, 1, 0, 0, 0, 99);
        x.pair(A, I, 99);
        x.pair(I, A, 99);
        C.opens("18: cost of rows by their own dots", x, 0, "0 aia", "0 i", "4 a", "11 aii", "11 iia");
        Checks.put(x, I);
        Checks.put(x, A);
        C.due("17: cost by the list has dots, too", x.listed(0, 0, 1) * 10 + x.listed(0, 1, 1), 4);
    }

    private static void leastCosts() {
        PenLines x = new PenLines();
        Checks.writeShapes(x, 0, 0, 1);
        x.form(A, 1, 0, 0, 0, 1);
        x.form(A, 2, 0, 0, 0, 99);
        x.form(B, 1, 1, 0, 0, 1);
        x.form(B, 2, 0, 1, 0, 2);
        C.opens("18: a row of letters is told once, at its least cost", x, 0, "12 ab", "30 aab");
        Checks.put(x, A, B);
        C.due("17: by the list, too", x.listed(0, 0, 1), 6);
        x.form(B, 2, 0, 1, 0, 97);
        x.form(A, 1, 0, 0, 0, 98);
        C.opens("18: another parting is the least now", x, 0, "6 ab", "18 aab");
        C.due("17: and by the list", x.listed(0, 0, 1), 0);
    }

    private static void orderOfOpenReadings() {
        PenLines x = new PenLines();
        Checks.writeShapes(x, 0, 0);
        x.form(A, 1, 0, 0, 0, 12);
        x.form(B, 1, 0, 0, 0, 12);
        x.form(A, 2, 0, 0, 0, 12);
        x.pair(A, B, 6);
        C.opens("18: the beginning of another goes ahead of it", x, 0, "0 a", "0 ab", "6 aa", "6 ba", "6 bb");
        x.form(25, 2, 0, 0, 0, 12);
        C.opens("18: only five are told", x, 0, "0 a", "0 ab", "0 z", "6 aa", "6 ba");
        x.form(25, 3, 0, 0, 0, 99);
        Checks.writeShapes(x, 0, 0, 0);
        C.opens("18: of three pieces", x, 0, "0 ab", "0 z", "6 aa", "6 aab", "6 aba");
        x.pair(A, 25, 99);
        x.pair(25, A, 99);
        x.pair(25, B, 99);
        x.pair(B, 25, 99);
        C.opens("18: the lesser letter goes ahead, not the shorter row", x, 0, "0 ab", "0 az", "0 bz", "0 z", "0 za");
    }

    private static void lengths() {
        PenLines x = new PenLines();
        x.form(A, 1, 0, 0, 0, 1);
        int[] pieces = new int[15];
        for (int n = 1; n <= 15; n++) {
            Checks.writeShapes(x, java.util.Arrays.copyOf(pieces, n));
            C.due("18: letters of " + n + " pieces", x.open(0, 0, -2), n <= 12 ? n : NONE);
            C.due("18: cost of " + n + " pieces", x.open(0, 0, -1), n <= 12 ? 12 * n - 6 : NONE);
        }
        Checks.spell(x, A, A, A, A, A, A, A, A, A, A, A, A);
        x.list();
        Checks.writeShapes(x, new int[12]);
        C.due("17: 12 letters by the list", x.listed(0, 0, 1), 72);
        Checks.writeShapes(x, new int[13]);
        C.due("17: 13 pieces", x.listed(0, 0, 1), NONE);
        x.form(A, 2, 0, 0, 0, 1);
        C.due("17: 13 pieces, 12 rows", x.listed(0, 0, 1), 72);
        Checks.writeShapes(x, new int[14]);
        C.due("17: 14 pieces, 12 rows", x.listed(0, 0, 1), 72);
        x.form(A, 3, 0, 0, 0, 1);
        Checks.writeShapes(x, new int[15]);
        C.due("17: 15 pieces have no readings by the list", x.listed(0, 0, 1), NONE);
        C.due("18: nor open ones", x.open(0, 0, -1), NONE);
        C.due("19: nor are they found", x.letter(A) + x.find(0), 1 + NONE);
    }

    private static void thirteenPieces() {
        PenLines x = new PenLines();
        x.form(A, 1, 0, 0, 0, 12);
        x.pair(A, A, 6);
        x.form(B, 2, 0, 0, 0, 1);
        Checks.writeShapes(x, new int[12]);
        C.opens("18: 12 pieces", x, 0, "0 aaaaaaaaaaaa", "12 aaaaaaaaaab", "12 baaaaaaaaaa", "18 aaaaaaaaaba", "18 aaaaaaaabaa");
        Checks.writeShapes(x, new int[13]);
        C.opens("18: 13 pieces: 13 letters are no reading", x, 0, "12 aaaaaaaaaaab", "12 baaaaaaaaaaa", "18 aaaaaaaaaaba",
                "18 aaaaaaaaabaa", "18 aaaaaaaabaaa");
    }

    private static void fourteenPieces() {
        PenLines x = new PenLines();
        x.form(A, 1, 0, 0, 0, 12);
        x.pair(A, A, 6);
        x.form(B, 2, 0, 0, 0, 1);
        Checks.writeShapes(x, new int[14]);
        C.opens("18: 14 pieces: at least two rows of two", x, 0, "24 aaaaaaaaaabb", "24 baaaaaaaaaab", "24 bbaaaaaaaaaa",
                "30 aaaaaaaaabab", "30 aaaaaaaaabba");
        x.form(2, 3, 0, 0, 0, 1);
        C.opens("18: 14 pieces: or a row of three", x, 0, "12 aaaaaaaaaaac", "12 caaaaaaaaaaa", "18 aaaaaaaaaaca",
                "18 aaaaaaaaacaa", "18 aaaaaaaacaaa");
    }

    /** Nothing of an ink that was read ahead comes into another one, of whatever lengths. */
    private static void oneAfterAnother() {
        for (int letter = 0; letter < 26; letter++) {
            for (int n = 14; n > 0; n -= 3) {
                PenLines x = new PenLines();
                x.form(letter, 1, 0, 0, 0, 9);
                x.form(letter, 3, 0, 0, 0, 99);
                x.form(4, 1, 1, 0, 0, 1);
                x.form(4, 3, 1, 1, 1, 1);
                Checks.writeShapes(x, new int[14]);
                C.due("18: 14 pieces of " + letter, x.open(0, 0, 0), letter);
                int[] others = new int[n];
                java.util.Arrays.fill(others, 1);
                Checks.writeShapes(x, others);
                for (int i = 0; i < 5; i++) {
                    for (int k = 0; k < Math.max(0, x.open(0, i, -2)); k++) {
                        C.due("18: then " + n + " others", x.open(0, i, k), 4);
                    }
                }
            }
        }
    }

    private static void promise19() {
        PenLines x = new PenLines();
        C.due("19: the empty word", x.find(0), STATE);
        C.due("19: the empty word, below 0", x.find(-1), STATE);
        x.form(A, 1, 0, 0, 0, 1);
        x.form(B, 1, 0, 0, 0, 2);
        x.form(A, 1, 1, 0, 0, 9);
        Checks.spell(x, A);
        C.due("19: an empty line", x.find(0), NONE);
        Checks.write(x, 0, 0, 100, 2, 200, 1, 300, 0, 305, 0, 400, 0);
        C.due("19: the first", x.find(0), 0);
        C.due("19: the second", x.find(1), 2);
        C.due("19: the third", x.find(2), 4);
        C.all("19: not so many", NONE, x.find(3), x.find(-1), x.find(LEAST), x.find(MOST));
        C.due("19: the word stays", x.count(6), 1);
        Checks.spell(x, B);
        C.due("19: ab", x.find(0), 3);
        C.due("19: no other", x.find(1), NONE);
        C.due("19: stays, too", x.wipe(), 2);
        for (int letter = 2; letter < 6; letter++) {
            x.form(letter, 1, 0, 0, 0, 5);
        }
        Checks.spell(x, B);
        C.due("19: the fifth is told", x.find(0), 0);
        x.wipe();
        Checks.spell(x, A);
        C.due("19: the sixth is not told", x.find(0), 2);
        C.due("19: nor anywhere else", x.find(1), NONE);
        x.wipe();
        Checks.write(x, 0, 1, 100, 1);
        Checks.spell(x, A);
        C.due("19: in a line of two inks", x.find(1), 1);
        Checks.write(x, 0, 1);
        C.due("19: in a line of one ink", x.find(0), 0);
        C.due("19: nothing of the line ahead", x.find(1), NONE);
        x.wipe();
        Checks.put(x, 20);
        Checks.spell(x, 20);
        C.due("19: a word of the list that nothing spells", x.find(0), NONE);
    }

    private static void promise20() {
        PenLines x = new PenLines();
        Checks.spell(x, A, A);
        C.all("20: bad", BAD, x.teach(0), x.teach(-1), x.teach(LEAST), x.teach(MOST));
        Checks.writeShapes(x, 0, 0);
        C.due("20: no reading spells it", x.teach(0), STATE);
        C.due("20: the word stays", x.count(6), 2);
        x.form(A, 1, 0, 0, 0, 1);
        C.due("20: one behind the last ink", x.teach(1), BAD);
        C.due("20: how many letters", x.teach(0), 2);
        C.due("20: the word is empty then", x.count(6), 0);
        C.due("20: the empty word", x.teach(0), STATE);
        C.due("20: one more for each", x.seen(A, 1, 0, 0, 0), 3);
        C.due("20: the pair, too", x.pair(A, A, 1), 2);
        C.due("20: taught", x.count(7), 1);
        Checks.spell(x, A);
        C.due("20: a part of it is not spelled", x.teach(0), STATE);
        Checks.spell(x, A, A);
        C.due("20: nor more than it", x.teach(0), STATE);
        C.due("20: nothing of these is taught", x.count(7), 1);
        C.due("20: the list has nothing to do with it", x.count(5), 0);
        Checks.writeShapes(x, new int[15]);
        x.form(A, 3, 0, 0, 0, 1);
        x.wipe();
        Checks.spell(x, A, A, A, A, A);
        C.due("20: 15 pieces have no readings", x.teach(0), STATE);
    }

    private static void promise20Rows() {
        PenLines x = new PenLines();
        Checks.writeShapes(x, 0, 1, 0);
        x.form(A, 1, 0, 0, 0, 1);
        x.form(A, 2, 1, 0, 0, 1);
        x.form(A, 2, 0, 1, 0, 1);
        Checks.spell(x, A, A);
        x.teach(0);
        C.due("20: the longer row first", x.seen(A, 2, 0, 1, 0), 2);
        C.due("20: then what is left", x.seen(A, 1, 0, 0, 0), 2);
        C.due("20: not the other one", x.seen(A, 2, 1, 0, 0), 1);
        x.form(A, 2, 1, 0, 0, 3);
        Checks.spell(x, A, A);
        x.teach(0);
        C.due("20: least cost goes ahead of longer rows", x.seen(A, 2, 1, 0, 0), 5);
        C.due("20: its short row", x.seen(A, 1, 0, 0, 0), 3);
        C.due("20: the longer row stays", x.seen(A, 2, 0, 1, 0), 2);

        x = new PenLines();
        Checks.writeShapes(x, 0, 1, 2, 3);
        x.form(A, 1, 0, 0, 0, 1);
        x.form(B, 2, 1, 2, 0, 1);
        x.form(B, 1, 1, 0, 0, 1);
        x.form(E, 2, 2, 3, 0, 1);
        x.form(E, 1, 3, 0, 0, 1);
        Checks.spell(x, A, B, E);
        C.due("20: three letters", x.teach(0), 3);
        C.due("20: at the first place where they part", x.seen(B, 2, 1, 2, 0), 2);
        C.due("20: and so the short one behind", x.seen(E, 1, 3, 0, 0), 2);
        C.due("20: not the shorter there", x.seen(B, 1, 1, 0, 0), 1);
        C.due("20: nor the longer behind", x.seen(E, 2, 2, 3, 0), 1);
        C.due("20: pairs in order", x.pair(A, B, 1), 2);
        C.due("20: pairs in order, the second", x.pair(B, E, 1), 2);
        C.due("20: no pair over one", x.pair(A, E, 1), 1);
        C.due("20: no pair the other way", x.pair(B, A, 1), 1);
    }

    private static void promise20Counts() {
        PenLines x = new PenLines();
        Checks.writeShapes(x, 3, 3, 3);
        for (int k = 0; k < 10; k++) {
            x.form(A, 1, 3, 0, 0, 99);
            x.pair(A, A, 99);
        }
        x.form(A, 1, 3, 0, 0, 8);
        x.pair(A, A, 8);
        Checks.spell(x, A, A, A);
        C.due("20: three", x.teach(0), 3);
        C.due("20: no form above 999", x.seen(A, 1, 3, 0, 0), 999);
        C.due("20: no pair above 999", x.pair(A, A, 1), 999);
        C.due("20: nothing is left", x.unteach(), 0);
        C.due("20: 998 again", x.seen(A, 1, 3, 0, 0), 998);
        C.due("20: 998 again, the pair", x.pair(A, A, 1), 999);
        x = new PenLines();
        Checks.writeShapes(x, 3, 3, 3);
        x.form(A, 1, 3, 0, 0, 1);
        Checks.spell(x, A, A, A);
        x.teach(0);
        C.due("20: three times the same form", x.seen(A, 1, 3, 0, 0), 4);
        C.due("20: twice the same pair", x.pair(A, A, 1), 3);
        C.due("20: no other form", x.count(3), 1);
        C.opens("20: readings are told anew", x, 0, "8 aaa");
    }

    private static void promise20Full() {
        PenLines x = new PenLines();
        Checks.writeShapes(x, 0);
        x.form(A, 1, 0, 0, 0, 1);
        for (int k = 0; k < 50; k++) {
            Checks.spell(x, A);
            C.due("20: not full yet", x.teach(0), 1);
        }
        C.due("20: the empty word goes ahead of full", x.teach(0), STATE);
        Checks.spell(x, A);
        C.due("20: full", x.teach(0), FULL);
        C.due("20: the word stays then", x.count(6), 1);
        C.due("20: counts stay then", x.seen(A, 1, 0, 0, 0), 51);
        C.due("20: BAD goes ahead of full", x.teach(1), BAD);
        Checks.spell(x, A);
        C.due("20: no reading goes ahead of full", x.teach(0), STATE);
        C.due("21: one less", x.unteach(), 49);
        x.wipe();
        Checks.spell(x, A);
        C.due("20: not full any more", x.teach(0), 1);
        for (int k = 49; k >= 0; k--) {
            C.due("21: how many are left", x.unteach(), k);
            C.due("21: count", x.seen(A, 1, 0, 0, 0), k + 1);
        }
        C.due("21: there was none", x.unteach(), NONE);
    }

    private static void promise21() {
        PenLines x = new PenLines();
        C.due("21: none", x.unteach(), NONE);
        Checks.writeShapes(x, 0, 1);
        x.form(A, 1, 0, 0, 0, 1);
        x.form(B, 1, 1, 0, 0, 1);
        Checks.spell(x, A, B);
        x.teach(0);
        Checks.spell(x, A, B);
        x.teach(0);
        C.opens("21: as taught", x, 0, "8 ab");
        Checks.put(x, A, B);
        Checks.spell(x, E);
        C.due("21: one is left", x.unteach(), 1);
        C.due("21: forms", x.seen(A, 1, 0, 0, 0) * 10 + x.seen(B, 1, 1, 0, 0), 22);
        C.opens("21: readings are told anew", x, 0, "11 ab");
        C.due("21: the list stays", x.count(5), 1);
        C.due("21: the word stays", x.count(6), 1);
        C.due("21: the line stays", x.count(1), 1);
        C.due("21: none is left", x.unteach(), 0);
        C.due("21: forms as at first", x.seen(A, 1, 0, 0, 0) * 10 + x.seen(B, 1, 1, 0, 0), 11);
        C.due("21: no pairs as at first", x.count(4), 0);
        C.due("21: none again", x.unteach(), NONE);
        C.due("21: what is refused changes nothing", x.seen(A, 1, 0, 0, 0), 1);
    }

    private static void promise21Told() {
        PenLines x = new PenLines();
        Checks.writeShapes(x, 0);
        x.form(A, 1, 0, 0, 0, 1);
        x.pair(B, B, 1);
        Checks.spell(x, A);
        x.teach(0);
        x.form(B, 1, 0, 0, 0, 5);
        x.form(A, 1, 0, 0, 0, 5);
        x.pair(B, B, 5);
        Checks.spell(x, B);
        x.teach(0);
        x.form(B, 1, 0, 0, 0, 50);
        x.form(D, 3, 0, 0, 0, 1);
        x.pair(A, A, 1);
        x.unteach();
        C.due("21: told since the latest is gone", x.seen(B, 1, 0, 0, 0), 5);
        C.due("21: a new form is gone", x.seen(D, 3, 0, 0, 0), 0);
        C.due("21: a new pair is gone", x.count(4), 1);
        C.due("21: told ahead of it stays", x.seen(A, 1, 0, 0, 0), 7);
        C.due("21: a form that is gone can come again", x.form(D, 3, 0, 0, 0, 2), 2);
        C.due("21: to none", x.unteach(), 0);
        C.due("21: what was told since the first is gone", x.seen(B, 1, 0, 0, 0), 0);
        C.due("21: so is that which came again", x.seen(D, 3, 0, 0, 0), 0);
        C.due("21: the first form", x.seen(A, 1, 0, 0, 0), 1);
        C.due("21: the first pair", x.pair(B, B, 1), 2);
        C.due("21: told with nothing taught", x.form(A, 1, 0, 0, 0, 1), 2);
        Checks.spell(x, A);
        x.teach(0);
        x.unteach();
        C.due("21: stays", x.seen(A, 1, 0, 0, 0), 2);
        C.opens("21: a form with no count spells nothing", x, 0, "4 a");
    }

    private static void promise21Long() {
        PenLines x = new PenLines();
        x.sheet(0, 0, 24);
        x.line(0, 0, 12);
        x.form(A, 1, 0, 0, 0, 1);
        for (int k = 0; k < 33; k++) {
            Checks.spell(x, A, A, A, A, A, A, A, A, A, A, A, A);
            C.due("21: twelve letters", x.teach(0), 12);
        }
        for (int k = 32; k >= 0; k--) {
            C.due("21: long words, left", x.unteach(), k);
            C.due("21: long words, forms", x.seen(A, 1, 0, 0, 0), 1 + 12 * k);
        }
        C.due("21: long words, pairs", x.pair(A, A, 1), 1);
    }
}
