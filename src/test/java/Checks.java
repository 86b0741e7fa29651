/** Counts what is not as due, and ends the program accordingly. */
final class Checks {
    static final int NONE = PenLines.NONE, BAD = PenLines.BAD, STATE = PenLines.STATE, FULL = PenLines.FULL;
    static final int NULL = -1000011, PLACE = -1000012, KIND = -1000013, SIZE = -1000014, STORE = -1000015;
    static final int LEAST = Integer.MIN_VALUE, MOST = Integer.MAX_VALUE;
    static final int DOT = 12;

    private int made = 0;
    private int wrong = 0;

    void due(String what, long got, long want) {
        made++;
        if (got != want) {
            wrong++;
            System.out.println(what + " answered " + got + ", due is " + want);
        }
    }

    void isTrue(String what, boolean holds) {
        due(what, holds ? 1 : 0, 1);
    }

    void end(String name) {
        System.out.println(name + ": " + made + " checks, " + wrong + " wrong");
        if (wrong > 0 || made == 0) {
            System.exit(1);
        }
    }

    /** Makes THE LINE of these x, shape, x, shape and so on, by SHEET 7: what line() answered. */
    static int write(PenLines x, int... items) {
        x.sheet(7, 2, items.length);
        fill(x, 7, items);
        return x.line(7, 0, items.length / 2);
    }

    /** Items of a SHEET, from 0 on. */
    static void fill(PenLines x, int sheet, int... items) {
        for (int k = 0; k < items.length; k++) {
            x.set(sheet, k, items[k]);
        }
    }

    /** Pieces of these shapes, five apart from 0 on. */
    static int writeShapes(PenLines x, int... shapes) {
        int[] items = new int[2 * shapes.length];
        for (int k = 0; k < shapes.length; k++) {
            items[2 * k] = 5 * k;
            items[2 * k + 1] = shapes[k];
        }
        return write(x, items);
    }

    /** LETTERS come behind THE WORD. */
    static void spell(PenLines x, int... letters) {
        for (int letter : letters) {
            x.letter(letter);
        }
    }

    /** THE WORD is listed: its place. */
    static int put(PenLines x, int... letters) {
        spell(x, letters);
        return x.list();
    }

    /** An OPEN READING as a text: its COST, then its LETTERS. */
    static String opened(PenLines x, int ink, int i) {
        StringBuilder text = new StringBuilder();
        int cost = x.open(ink, i, -1);
        if (cost == NONE) {
            return "none";
        }
        text.append(cost).append(' ');
        for (int k = 0; k < x.open(ink, i, -2); k++) {
            text.append((char) ('a' + x.open(ink, i, k)));
        }
        return text.toString();
    }

    void opens(String what, PenLines x, int ink, String... want) {
        for (int i = 0; i < 5; i++) {
            String due = i < want.length ? want[i] : "none";
            String got = opened(x, ink, i);
            isTrue(what + ": open reading " + i + " is " + got + ", due is " + due, got.equals(due));
        }
    }

    /** Kept for a call of many numbers: a row of answers that are all the same. */
    void all(String what, int want, int... got) {
        for (int k = 0; k < got.length; k++) {
            due(what + " [" + k + "]", got[k], want);
        }
    }
}
