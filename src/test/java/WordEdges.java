/** Promises 11 to 16 and 26, edge by edge: forms, pairs, THE WORD, THE LIST, how many there are. */
public final class WordEdges {
    private static final Checks C = new Checks();
    private static final int BAD = Checks.BAD, STATE = Checks.STATE, FULL = Checks.FULL, NONE = Checks.NONE;
    private static final int LEAST = Checks.LEAST, MOST = Checks.MOST, DOT = Checks.DOT;
    private static final int A = 0, B = 1, Z = 25;

    public static void main(String[] args) {
        promise11();
        promise11Most();
        promise11Beyond();
        promise12();
        promise13();
        promise13Most();
        promise14();
        promise15();
        promise15Same();
        promise16();
        promise26();
        promise26Counts();
        C.end("WordEdges");
    }

    /** LETTERS 0 to 25, 1 to 3 shapes 0 to 11, seen 1 to 99 times more. */
    private static void promise11() {
        PenLines x = new PenLines();
        C.due("11: letter 0", x.form(0, 1, 0, 0, 0, 1), 1);
        C.due("11: letter 25", x.form(25, 1, 0, 0, 0, 1), 1);
        C.all("11: letters that are none", BAD, x.form(-1, 1, 0, 0, 0, 1), x.form(26, 1, 0, 0, 0, 1),
                x.form(LEAST, 1, 0, 0, 0, 1), x.form(MOST, 1, 0, 0, 0, 1));
        C.due("11: one shape, the last", x.form(1, 1, 11, 0, 0, 1), 1);
        C.due("11: three shapes, the last", x.form(1, 3, 11, 11, 11, 1), 1);
        C.due("11: three shapes, the first", x.form(1, 3, 0, 0, 0, 1), 1);
        C.all("11: shapes that are too few, or too many", BAD, x.form(0, 0, 0, 0, 0, 1), x.form(0, 4, 0, 0, 0, 1),
                x.form(0, -1, 0, 0, 0, 1), x.form(0, LEAST, 0, 0, 0, 1), x.form(0, MOST, 0, 0, 0, 1));
        for (int shape : new int[] {-1, DOT, LEAST, MOST}) {
            C.due("11: first shape " + shape, x.form(0, 1, shape, 0, 0, 1), BAD);
            C.due("11: first of three " + shape, x.form(0, 3, shape, 0, 0, 1), BAD);
            C.due("11: second of two " + shape, x.form(0, 2, 0, shape, 0, 1), BAD);
            C.due("11: second of three " + shape, x.form(0, 3, 0, shape, 0, 1), BAD);
            C.due("11: third of three " + shape, x.form(0, 3, 0, 0, shape, 1), BAD);
        }
        C.due("11: 99 times", x.form(2, 1, 0, 0, 0, 99), 99);
        C.due("11: once more", x.form(2, 1, 0, 0, 0, 1), 100);
        C.all("11: not often, or too often", BAD, x.form(2, 1, 0, 0, 0, 0), x.form(2, 1, 0, 0, 0, 100),
                x.form(2, 1, 0, 0, 0, -1), x.form(2, 1, 0, 0, 0, LEAST), x.form(2, 1, 0, 0, 0, MOST));
        C.due("11: what is BAD is not seen", x.seen(2, 1, 0, 0, 0), 100);
        C.due("11: nor is it a form", x.count(3), 6);
    }

    /** 0 at first, 999 at most. */
    private static void promise11Most() {
        int[] last = {8, 9, 10, 99};
        int[] due = {998, 999, 999, 999};
        for (int k = 0; k < last.length; k++) {
            PenLines x = new PenLines();
            for (int often = 0; often < 10; often++) {
                C.due("11: on to 990", x.form(7, 2, 3, 4, 0, 99), 99 * (often + 1));
            }
            C.due("11: 990 and " + last[k], x.form(7, 2, 3, 4, 0, last[k]), due[k]);
            C.due("11: it stays", x.seen(7, 2, 3, 4, 0), due[k]);
            C.due("11: and one more", x.form(7, 2, 3, 4, 0, 1), 999);
            C.due("11: and 99 more", x.form(7, 2, 3, 4, 0, 99), 999);
            C.due("11: another form is not near it", x.form(7, 2, 4, 3, 0, 1), 1);
        }
    }

    /** Shapes beyond n are not looked at. */
    private static void promise11Beyond() {
        PenLines x = new PenLines();
        int[] any = {LEAST, -1, 0, 11, 12, MOST};
        int seen = 0;
        for (int s : any) {
            seen++;
            C.due("11: beyond 1 is " + s, x.form(3, 1, 5, s, s, 1), seen);
            C.due("11: beyond 2 is " + s, x.form(3, 2, 5, 5, s, 1), seen);
            C.due("12: beyond 1 is " + s, x.seen(3, 1, 5, s, s), seen);
            C.due("12: beyond 2 is " + s, x.seen(3, 2, 5, 5, s), seen);
        }
        C.due("11: they are two forms", x.count(3), 2);
        C.due("12: not one of three", x.seen(3, 3, 5, 5, 0), 0);
    }

    private static void promise12() {
        PenLines x = new PenLines();
        C.all("12: 0 at first", 0, x.seen(0, 1, 0, 0, 0), x.seen(25, 3, 11, 11, 11), x.seen(0, 1, 11, 0, 0),
                x.seen(25, 2, 0, 11, 0));
        C.all("12: letters that are none", BAD, x.seen(-1, 1, 0, 0, 0), x.seen(26, 1, 0, 0, 0), x.seen(LEAST, 1, 0, 0, 0),
                x.seen(MOST, 1, 0, 0, 0));
        C.all("12: shapes that are too few, or too many", BAD, x.seen(0, 0, 0, 0, 0), x.seen(0, 4, 0, 0, 0),
                x.seen(0, -1, 0, 0, 0), x.seen(0, LEAST, 0, 0, 0), x.seen(0, MOST, 0, 0, 0));
        for (int shape : new int[] {-1, DOT, LEAST, MOST}) {
            C.due("12: first shape " + shape, x.seen(0, 1, shape, 0, 0), BAD);
            C.due("12: first of three " + shape, x.seen(0, 3, shape, 0, 0), BAD);
            C.due("12: second of two " + shape, x.seen(0, 2, 0, shape, 0), BAD);
            C.due("12: second of three " + shape, x.seen(0, 3, 0, shape, 0), BAD);
            C.due("12: third of three " + shape, x.seen(0, 3, 0, 0, shape), BAD);
        }
        x.form(Z, 3, 11, 11, 11, 99);
        C.due("12: the last of all forms", x.seen(Z, 3, 11, 11, 11), 99);
        C.all("12: its neighbours", 0, x.seen(Z, 3, 11, 11, 10), x.seen(Z, 3, 11, 10, 11), x.seen(Z, 3, 10, 11, 11),
                x.seen(24, 3, 11, 11, 11), x.seen(Z, 2, 11, 11, 0), x.seen(Z, 1, 11, 0, 0));
        x.form(A, 1, 0, 0, 0, 1);
        C.due("12: the first of all forms", x.seen(A, 1, 0, 0, 0), 1);
        C.all("12: its neighbours, too", 0, x.seen(B, 1, 0, 0, 0), x.seen(A, 1, 1, 0, 0), x.seen(A, 2, 0, 0, 0),
                x.seen(A, 3, 0, 0, 0));
    }

    private static void promise13() {
        PenLines x = new PenLines();
        C.due("13: the first pair", x.pair(0, 0, 1), 1);
        C.due("13: the last pair", x.pair(25, 25, 99), 99);
        C.due("13: 0 and 25", x.pair(0, 25, 2), 2);
        C.due("13: 25 and 0, which is another one", x.pair(25, 0, 3), 3);
        C.due("13: its neighbour", x.pair(1, 0, 4), 4);
        C.all("13: letters that are none", BAD, x.pair(-1, 0, 1), x.pair(26, 0, 1), x.pair(0, -1, 1), x.pair(0, 26, 1),
                x.pair(LEAST, 0, 1), x.pair(MOST, 0, 1), x.pair(0, LEAST, 1), x.pair(0, MOST, 1), x.pair(26, -1, 1));
        C.all("13: not often, or too often", BAD, x.pair(0, 0, 0), x.pair(0, 0, 100), x.pair(0, 0, -1), x.pair(0, 0, LEAST),
                x.pair(0, 0, MOST));
        C.due("13: what is BAD is not seen", x.pair(0, 0, 1), 2);
        C.due("13: five pairs", x.count(4), 5);
    }

    private static void promise13Most() {
        int[] last = {8, 9, 10, 99};
        int[] due = {998, 999, 999, 999};
        for (int k = 0; k < last.length; k++) {
            PenLines x = new PenLines();
            for (int often = 0; often < 10; often++) {
                C.due("13: on to 990", x.pair(7, 8, 99), 99 * (often + 1));
            }
            C.due("13: 990 and " + last[k], x.pair(7, 8, last[k]), due[k]);
            C.due("13: and one more", x.pair(7, 8, 1), 999);
            C.due("13: and 99 more", x.pair(7, 8, 99), 999);
        }
    }

    /** FULL: 12. */
    private static void promise14() {
        PenLines x = new PenLines();
        C.due("14: letter 25", x.letter(25), 1);
        C.due("14: letter 0", x.letter(0), 2);
        C.all("14: letters that are none", BAD, x.letter(-1), x.letter(26), x.letter(LEAST), x.letter(MOST));
        for (int k = 3; k <= 12; k++) {
            C.due("14: letter number " + k, x.letter(0), k);
        }
        C.all("14: full", FULL, x.letter(0), x.letter(25));
        C.all("14: BAD goes ahead of full", BAD, x.letter(-1), x.letter(26));
        C.due("14: it has twelve", x.count(6), 12);
        C.due("14: empty behind wipe", x.wipe() + x.letter(4), 12 + 1);
    }

    /** STATE: it is empty, or there already; FULL: 30. */
    private static void promise15() {
        PenLines x = new PenLines();
        C.due("15: empty", x.list(), STATE);
        for (int place = 0; place < 30; place++) {
            C.due("15: place " + place, Checks.put(x, place % 26, place / 26), place);
            C.due("15: empty behind it", x.list(), STATE);
        }
        C.due("15: thirty", x.count(5), 30);
        C.due("15: empty goes ahead of full", x.list(), STATE);
        Checks.spell(x, 0);
        C.due("15: full", x.list(), FULL);
        C.due("15: the word stays then", x.count(6), 1);
        Checks.spell(x, 0);
        C.due("15: there already goes ahead of full", x.list(), STATE);
        C.due("15: the word stays then, too", x.count(6), 2);
        Checks.spell(x, 0);
        C.due("15: full again", x.list(), FULL);
        C.due("15: thirty, still", x.count(5), 30);
    }

    private static void promise15Same() {
        PenLines x = new PenLines();
        C.due("15: one letter", Checks.put(x, A), 0);
        C.due("15: there already", Checks.put(x, A), STATE);
        C.due("15: one more letter, and it is another word", x.letter(A) + x.list(), 2 + 1);
        C.due("15: a word of twelve", Checks.put(x, A, A, A, A, A, A, A, A, A, A, A, B), 2);
        C.due("15: its beginning of eleven", Checks.put(x, A, A, A, A, A, A, A, A, A, A, A), 3);
        C.due("15: another last letter", Checks.put(x, A, A, A, A, A, A, A, A, A, A, A, A), 4);
        C.due("15: twelve, there already", Checks.put(x, A, A, A, A, A, A, A, A, A, A, A, B), STATE);
        x.wipe();
        C.due("15: another first letter", Checks.put(x, B, A, A, A, A, A, A, A, A, A, A, B), 5);
        C.due("15: the last letter", Checks.put(x, Z), 6);
        C.due("15: the last letter, there already", Checks.put(x, Z), STATE);
        C.due("15: six and one", x.count(5), 7);
    }

    private static void promise16() {
        PenLines x = new PenLines();
        C.due("16: none", x.wipe(), 0);
        C.due("16: one", x.letter(A) - 1 + x.wipe(), 1);
        Checks.spell(x, B, B, B, B, B, B, B, B, B, B, B, B);
        C.due("16: twelve", x.wipe(), 12);
        C.due("16: empty then", x.count(6), 0);
        C.due("16: so list() is refused", x.list(), STATE);
        C.due("16: and find()", x.find(0), STATE);
        C.due("16: nothing of it comes again", Checks.put(x, A), 0);
        Checks.writeShapes(x, 0);
        x.form(A, 1, 0, 0, 0, 1);
        C.due("16: it is just that letter", x.listed(0, 0, 0), 0);
    }

    /** 0 SHEETS, 1 INKS, 2 DOTS of THE LINE. */
    private static void promise26() {
        PenLines x = new PenLines();
        C.all("26: what is none", BAD, x.count(-1), x.count(8), x.count(LEAST), x.count(MOST));
        for (int sheet = 0; sheet < 8; sheet++) {
            x.sheet(sheet, sheet % 3, sheet == 0 ? 0 : 80);
            C.due("26: sheets", x.count(0), sheet + 1);
        }
        x.sheet(4, 0, 1);
        C.due("26: one in place of another", x.count(0), 8);
        x.gap(1);
        for (int k = 0; k < 40; k++) {
            x.set(7, 2 * k, 3 * k);
        }
        x.line(7, 0, 40);
        C.due("26: forty inks", x.count(1), 40);
        C.due("26: no dots", x.count(2), 0);
        x.gap(3);
        C.due("26: one ink", x.count(1), 1);
        for (int sheet = 7; sheet >= 0; sheet--) {
            x.drop(sheet);
            C.due("26: sheets that are left", x.count(0), sheet);
        }
        C.due("26: the line is left", x.count(1), 1);
        Checks.write(x, 0, DOT, 500, DOT, 3, 0);
        C.due("26: dots, joined and loose", x.count(2), 2);
    }

    /** 3 FORMS with a COUNT, 4 PAIRS with one, 5 WORDS of THE LIST, 6 LETTERS of THE WORD, 7 TEACHINGS not untaught. */
    private static void promise26Counts() {
        PenLines x = new PenLines();
        Checks.writeShapes(x, 0);
        x.seen(A, 1, 0, 0, 0);
        C.due("26: asked for, no form has a count", x.count(3), 0);
        x.form(A, 1, 0, 0, 0, 1);
        x.form(A, 1, 0, 0, 0, 99);
        x.form(A, 1, 0, 0, 0, 100);
        C.due("26: one form, seen twice", x.count(3), 1);
        x.pair(A, A, 1);
        x.pair(A, A, 99);
        x.pair(A, A, 0);
        C.due("26: one pair, seen twice", x.count(4), 1);
        Checks.spell(x, A);
        C.due("26: letters", x.count(6), 1);
        x.teach(0);
        C.due("26: teachings", x.count(7), 1);
        C.due("26: letters behind it", x.count(6), 0);
        x.form(B, 1, 0, 0, 0, 1);
        x.form(B, 2, 0, 0, 0, 1);
        x.form(B, 3, 0, 0, 0, 1);
        x.pair(A, B, 1);
        x.pair(B, A, 1);
        C.due("26: three forms more", x.count(3), 4);
        C.due("26: two pairs more", x.count(4), 3);
        x.unteach();
        C.due("26: without a count again, forms", x.count(3), 1);
        C.due("26: without a count again, pairs", x.count(4), 1);
        C.due("26: no teachings", x.count(7), 0);
        C.due("26: none to untaught", x.unteach(), NONE);
        C.due("26: no teachings, still", x.count(7), 0);
        C.due("26: words", Checks.put(x, A) + x.count(5), 1);
        Checks.put(x, A);
        C.due("26: a word there already", x.count(5), 1);
        C.due("26: its letters stay", x.count(6), 1);
    }
}
