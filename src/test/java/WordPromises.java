/** Promises 11 to 16, and 26: forms, pairs, THE WORD, THE LIST, and how many there are of each thing. */
public final class WordPromises {
    private static final Checks C = new Checks();
    private static final int BAD = Checks.BAD, STATE = Checks.STATE, FULL = Checks.FULL;
    private static final int LEAST = Checks.LEAST, MOST = Checks.MOST;

    public static void main(String[] args) {
        promise11();
        promise12();
        promise12Apart();
        promise13();
        promise14();
        promise15();
        promise16();
        promise26();
        promise26Counts();
        C.end("WordPromises");
    }

    private static void promise11() {
        PenLines x = new PenLines();
        C.due("11: a form", x.form(0, 1, 0, 0, 0, 1), 1);
        C.due("11: so often more", x.form(0, 1, 0, 0, 0, 98), 99);
        C.due("11: most often", x.form(25, 3, 11, 11, 11, 99), 99);
        C.due("11: shapes beyond 1 are not looked at", x.form(0, 1, 0, -1, 99, 1), 100);
        C.due("11: shapes beyond 2 are not looked at", x.form(0, 2, 0, 0, LEAST, 1), 1);
        C.due("11: another form by its length", x.form(0, 3, 0, 0, 0, 2), 2);
        C.due("11: another form by its letter", x.form(1, 1, 0, 0, 0, 3), 3);
        C.due("11: another form by its order", x.form(0, 2, 1, 0, 0, 4) * 10 + x.form(0, 2, 0, 1, 0, 5), 45);
        C.all("11: bad", BAD, x.form(-1, 1, 0, 0, 0, 1), x.form(26, 1, 0, 0, 0, 1), x.form(MOST, 1, 0, 0, 0, 1),
                x.form(0, 0, 0, 0, 0, 1), x.form(0, 4, 0, 0, 0, 1), x.form(0, LEAST, 0, 0, 0, 1),
                x.form(0, 1, -1, 0, 0, 1), x.form(0, 1, 12, 0, 0, 1), x.form(0, 2, 0, -1, 0, 1), x.form(0, 2, 0, 12, 0, 1),
                x.form(0, 3, 0, 0, -1, 1), x.form(0, 3, 0, 0, 12, 1), x.form(0, 3, MOST, LEAST, MOST, 1),
                x.form(0, 1, 0, 0, 0, 0), x.form(0, 1, 0, 0, 0, 100), x.form(0, 1, 0, 0, 0, -1), x.form(0, 1, 0, 0, 0, MOST));
        C.due("11: what is BAD changes nothing", x.seen(0, 1, 0, 0, 0), 100);
        for (int k = 2; k <= 10; k++) {
            C.due("11: on to the most", x.form(1, 2, 3, 4, 0, 99), k == 1 ? 99 : Math.min(999, 99 * (k - 1)));
        }
        C.due("11: 990 it is", x.form(1, 2, 3, 4, 0, 99), 990);
        C.due("11: 999 at most", x.form(1, 2, 3, 4, 0, 10), 999);
        C.due("11: no more", x.form(1, 2, 3, 4, 0, 1), 999);
    }

    private static void promise12() {
        PenLines x = new PenLines();
        x.form(4, 2, 1, 2, 0, 7);
        C.due("12: count", x.seen(4, 2, 1, 2, 0), 7);
        C.due("12: what is beyond is not looked at", x.seen(4, 2, 1, 2, 77), 7);
        C.all("12: never seen", 0, x.seen(4, 1, 1, 2, 0), x.seen(4, 2, 2, 1, 0), x.seen(4, 3, 1, 2, 0),
                x.seen(5, 2, 1, 2, 0), x.seen(25, 3, 11, 11, 11), x.seen(0, 1, 0, -5, -5));
        C.all("12: bad", BAD, x.seen(-1, 1, 0, 0, 0), x.seen(26, 1, 0, 0, 0), x.seen(0, 0, 0, 0, 0), x.seen(0, 4, 0, 0, 0),
                x.seen(0, 1, 12, 0, 0), x.seen(0, 2, 0, 12, 0), x.seen(0, 3, 0, 0, 12), x.seen(0, 3, 0, 0, -1),
                x.seen(LEAST, 1, 0, 0, 0), x.seen(0, MOST, 0, 0, 0));
        C.due("12: to ask makes no form", x.count(3), 1);
    }

    /** Forms of one object are kept apart: all short rows, then some hundred rows of any length. */
    private static void promise12Apart() {
        PenLines x = new PenLines();
        for (int k = 0; k < 156; k++) {
            x.form(3, k < 12 ? 1 : 2, k < 12 ? k : (k - 12) / 12, k % 12, 0, 1 + k % 99);
        }
        C.due("12: as many as were told", x.count(3), 156);
        for (int k = 0; k < 156; k++) {
            C.due("12: short row " + k, x.seen(3, k < 12 ? 1 : 2, k < 12 ? k : (k - 12) / 12, k % 12, 0), 1 + k % 99);
        }
        x = new PenLines();
        for (int k = 0; k < 250; k++) {
            x.form(k % 4, k % 3 + 1, k / 3 % 12, k / 36 % 12, k % 7 + k / 144, 1 + k % 97);
        }
        for (int k = 249; k >= 0; k--) {
            int due = 0;
            for (int other = 0; other < 250; other++) {
                boolean same = k % 4 == other % 4 && k % 3 == other % 3 && k / 3 % 12 == other / 3 % 12
                        && (k % 3 < 1 || k / 36 % 12 == other / 36 % 12)
                        && (k % 3 < 2 || k % 7 + k / 144 == other % 7 + other / 144);
                due += same ? 1 + other % 97 : 0;
            }
            C.due("12: row " + k, x.seen(k % 4, k % 3 + 1, k / 3 % 12, k / 36 % 12, k % 7 + k / 144), due);
        }
    }

    private static void promise13() {
        PenLines x = new PenLines();
        C.due("13: a pair", x.pair(0, 25, 1), 1);
        C.due("13: so often more", x.pair(0, 25, 99), 100);
        C.due("13: the other way round", x.pair(25, 0, 2), 2);
        C.due("13: of the same letter", x.pair(7, 7, 3), 3);
        C.due("13: its neighbour", x.pair(1, 0, 4), 4);
        C.all("13: bad", BAD, x.pair(-1, 0, 1), x.pair(26, 0, 1), x.pair(0, -1, 1), x.pair(0, 26, 1), x.pair(0, 0, 0),
                x.pair(0, 0, 100), x.pair(0, 0, -1), x.pair(LEAST, 0, 1), x.pair(0, MOST, 1), x.pair(0, 0, LEAST));
        C.due("13: what is BAD changes nothing", x.pair(0, 0, 1), 1);
        for (int k = 0; k < 9; k++) {
            x.pair(3, 4, 99);
        }
        C.due("13: near the most", x.pair(3, 4, 99), 990);
        C.due("13: 999 at most", x.pair(3, 4, 99), 999);
        C.due("13: no more", x.pair(3, 4, 1), 999);
    }

    private static void promise14() {
        PenLines x = new PenLines();
        C.all("14: bad", BAD, x.letter(-1), x.letter(26), x.letter(LEAST), x.letter(MOST));
        for (int k = 0; k < 12; k++) {
            C.due("14: how many", x.letter(k == 0 ? 25 : 0), k + 1);
        }
        C.due("14: full", x.letter(0), FULL);
        C.due("14: BAD goes ahead of FULL", x.letter(26), BAD);
        C.due("14: they stay", x.count(6), 12);
        C.due("14: a word of 12 is listed", x.list(), 0);
        C.due("14: empty again", x.letter(1), 1);
    }

    private static void promise15() {
        PenLines x = new PenLines();
        C.due("15: the empty word", x.list(), STATE);
        C.due("15: the first", Checks.put(x, 0), 0);
        C.due("15: the word is empty then", x.count(6), 0);
        C.due("15: the empty word again", x.list(), STATE);
        C.due("15: a longer one", Checks.put(x, 0, 0), 1);
        C.due("15: another order", Checks.put(x, 1, 0), 2);
        C.due("15: the end of it", Checks.put(x, 0, 1), 3);
        C.due("15: there already", Checks.put(x, 1, 0), STATE);
        C.due("15: the word stays then", x.count(6), 2);
        C.due("15: so it can go on", x.letter(5), 3);
        for (int place = 4; place < 30; place++) {
            C.due("15: place", x.list(), place);
            Checks.spell(x, 9, place);
            C.due("15: places so far", x.count(5), place + 1);
            if (place >= 25) {
                x.wipe();
                Checks.spell(x, 8, place - 25);
            }
        }
        C.due("15: full", x.list(), FULL);
        C.due("15: the word stays", x.wipe(), 2);
        C.due("15: there already goes ahead of full", Checks.put(x, 0), STATE);
        x.wipe();
        C.due("15: empty goes ahead of full", x.list(), STATE);
        C.due("15: thirty", x.count(5), 30);
    }

    private static void promise16() {
        PenLines x = new PenLines();
        C.due("16: none", x.wipe(), 0);
        Checks.spell(x, 1, 2, 3);
        C.due("16: three", x.wipe(), 3);
        C.due("16: empty now", x.wipe(), 0);
        C.due("16: nothing of it is left", Checks.put(x, 4), 0);
        C.due("16: nothing at all", Checks.put(x, 1, 2, 3), 1);
        C.due("16: list stays", x.count(5), 2);
    }

    private static void promise26() {
        PenLines x = new PenLines();
        C.all("26: bad", BAD, x.count(-1), x.count(8), x.count(LEAST), x.count(MOST));
        x.sheet(0, 0, 1);
        x.sheet(0, 1, 1);
        x.sheet(7, 0, 1);
        C.due("26: sheets", x.count(0), 2);
        x.drop(0);
        C.due("26: sheets, one dropped", x.count(0), 1);
        Checks.write(x, 0, 1, 0, Checks.DOT, 50, 1, 99, Checks.DOT);
        C.due("26: inks", x.count(1), 2);
        C.due("26: dots, loose or not", x.count(2), 2);
    }

    private static void promise26Counts() {
        PenLines x = new PenLines();
        Checks.writeShapes(x, 1, 1);
        x.form(0, 1, 1, 0, 0, 1);
        x.form(0, 1, 1, 0, 0, 1);
        x.form(1, 2, 1, 1, 0, 1);
        C.due("26: forms", x.count(3), 2);
        C.due("26: no pairs yet", x.count(4), 0);
        x.pair(3, 3, 1);
        x.pair(3, 3, 1);
        C.due("26: pairs", x.count(4), 1);
        Checks.put(x, 5);
        Checks.spell(x, 0, 0);
        C.due("26: words", x.count(5), 1);
        C.due("26: letters", x.count(6), 2);
        C.due("26: teachings at first", x.count(7), 0);
        x.teach(0);
        C.due("26: letters of the empty word", x.count(6), 0);
        C.due("26: teachings", x.count(7), 1);
        C.due("26: a pair was taught", x.count(4), 2);
        x.form(2, 1, 1, 0, 0, 1);
        x.form(2, 1, 4, 0, 0, 1);
        C.due("26: forms told since", x.count(3), 4);
        x.unteach();
        C.due("26: forms untaught", x.count(3), 2);
        C.due("26: pairs untaught", x.count(4), 1);
        C.due("26: teachings untaught", x.count(7), 0);
    }
}
