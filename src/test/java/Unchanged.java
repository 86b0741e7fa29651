import java.util.ArrayList;
import java.util.List;

/**
 * What is refused, or found, changes nothing but status(). Each such call is made on one of two objects that
 * were used alike, and then both are asked for all that they hold: their answers are the same but for status().
 */
public final class Unchanged {
    private static final Checks C = new Checks();
    private static final int NONE = Checks.NONE, BAD = Checks.BAD, STATE = Checks.STATE, FULL = Checks.FULL;
    private static final int NULL = Checks.NULL, PLACE = Checks.PLACE, KIND = Checks.KIND;
    private static final int SIZE = Checks.SIZE, STORE = Checks.STORE, DOT = Checks.DOT;
    private static final int LEAST = Checks.LEAST, MOST = Checks.MOST;
    private static final int A = 0, B = 1, D = 3, INKS = 4;

    /** How an object is used ahead of the call. */
    private interface Use {
        void of(PenLines x);
    }

    private interface Call {
        int on(PenLines x);
    }

    public static void main(String[] args) {
        sheets();
        lines();
        inks();
        forms();
        words();
        listedAndOpen();
        findAndTeach();
        kindsAndAsks();
        askedOnly();
        C.end("Unchanged");
    }

    /** Something of everything: sheets of each lane, four inks, counts taught and told, a list, a word, a trace. */
    private static void used(PenLines x) {
        lay(x, 0, 0, 6);
        lay(x, 1, 1, 8);
        lay(x, 4, 2, 4);
        x.sheet(6, 2, 0);
        x.sheet(5, 2, 4);
        Checks.fill(x, 5, 2001, 0, 0, 13);
        x.sheet(3, 1, 6);
        Checks.fill(x, 3, 50, 5, 60, 6, 70, 13);
        int[] items = {0, 0, 10, 1, 9, DOT, 100, 0, 200, 2, 260, DOT};
        x.sheet(2, 1, 80);
        Checks.fill(x, 2, items);
        for (int k = 6; k < 21; k++) {
            x.set(2, 2 * k, 300 + k);
            x.set(2, 2 * k + 1, 3);
        }
        x.line(2, 0, 21);
        x.gap(29);
        x.form(A, 1, 0, 0, 0, 1);
        x.form(B, 1, 1, 0, 0, 2);
        x.form(A, 2, 0, 1, 0, 1);
        x.form(D, 1, 2, 0, 0, 11);
        x.form(D, 3, 3, 3, 3, 1);
        x.pair(A, B, 1);
        Checks.put(x, A, B);
        Checks.put(x, D);
        Checks.spell(x, A, B);
        x.teach(0);
        x.form(D, 1, 1, 0, 0, 7);
        Checks.spell(x, A);
        x.teach(1);
        x.ask(2, 0);
        Checks.spell(x, A, B);
    }

    private static void usedWithoutWord(PenLines x) {
        used(x);
        x.wipe();
    }

    private static void usedWithOtherWord(PenLines x) {
        usedWithoutWord(x);
        Checks.spell(x, B, B);
    }

    /** Thirty words, twelve letters in THE WORD, fifty teachings. */
    private static void full(PenLines x) {
        Checks.write(x, 0, 0, 100, 1, 105, 1, 50, DOT);
        x.drop(7);
        lay(x, 0, 0, 4);
        x.gap(29);
        x.form(A, 1, 0, 0, 0, 1);
        x.pair(A, B, 1);
        for (int k = 0; k < 50; k++) {
            Checks.spell(x, A);
            x.teach(0);
        }
        for (int k = 0; k < 26; k++) {
            Checks.put(x, k);
        }
        for (int k = 0; k < 4; k++) {
            Checks.put(x, A, k);
        }
        x.ask(0, 1);
        Checks.spell(x, A, B, A, B, A, B, A, B, A, B, A, B);
    }

    private static void fullWithShortWord(PenLines x) {
        full(x);
        x.wipe();
        Checks.spell(x, A);
    }

    private static void usedAndUntaught(PenLines x) {
        used(x);
        x.unteach();
        x.unteach();
    }

    private static void fresh(PenLines x) {
        x.status();
    }

    private static void lay(PenLines x, int sheet, int lane, int n) {
        x.sheet(sheet, lane, n);
        for (int k = 0; k < n; k++) {
            x.set(sheet, k, (sheet + k) % 12);
        }
    }

    private static void refused(String call, int due, Call made) {
        refused(call, Unchanged::used, due, made);
    }

    /** With nothing found ahead of it, and with KIND found ahead of it. */
    private static void refused(String call, Use use, int due, Call made) {
        for (int kind = 0; kind <= 3; kind += 3) {
            PenLines x = new PenLines();
            PenLines twin = new PenLines();
            use.of(x);
            use.of(twin);
            x.as(1, kind);
            twin.as(1, kind);
            int ahead = twin.status();
            C.due(call, made.on(x), due);
            C.due(call + ": status behind it", x.status(), due < -1000010 ? -1000010 - due : ahead);
            same(call, held(x), held(twin));
        }
    }

    private static void same(String call, List<Integer> got, List<Integer> want) {
        C.due(call + ": answers behind it", got.size(), want.size());
        int k = 0;
        while (k < got.size() && k < want.size() && got.get(k).equals(want.get(k))) {
            k++;
        }
        C.due(call + ": first answer behind it that is another one", k, want.size());
    }

    /**
     * All that an object holds but status(); much of it is gone then. With what is done ahead, some 500 calls at most.
     * What is never refused is asked first, lest a refusal here hides what the one ahead has done.
     */
    private static List<Integer> held(PenLines x) {
        List<Integer> all = new ArrayList<>();
        all.add(x.loose());
        for (int k = 0; k < 8; k++) {
            all.add(x.count(k));
        }
        all.add(x.gap(29));
        for (int k = 0; k < 8 && (k == 0 || all.get(all.size() - 1) != NONE); k++) {
            all.add(x.trace(k));
        }
        all.add(x.count(6) == 0 ? NONE : x.find(0));
        for (int ink = 0; ink < x.count(1); ink++) {
            inkHeld(x, ink, all);
        }
        wordHeld(x, all);
        countsHeld(x, all);
        for (int sheet = 0; sheet < 8; sheet++) {
            itemsHeld(x, sheet, all);
        }
        for (int sheet = 0; sheet < 8; sheet++) {
            all.add(x.set(sheet, 0, 0x7654fedc));
            all.add(x.drop(sheet));
        }
        return all;
    }

    private static void inkHeld(PenLines x, int ink, List<Integer> all) {
        int pieces = x.ink(ink, 0);
        all.add(pieces);
        all.add(x.ink(ink, 2));
        all.add(x.kind(ink));
        for (int k = 0; k < Math.min(2, pieces); k++) {
            all.add(x.piece(ink, k, 0));
            all.add(x.piece(ink, k, 1));
            all.add(x.piece(ink, k, 2));
        }
        int cost = 0;
        for (int i = 0; i < 5 && cost != NONE; i++) {
            cost = x.open(ink, i, -1);
            all.add(cost);
            all.add(x.open(ink, i, 0));
        }
        int place = 0;
        for (int i = 0; i < 5 && place != NONE; i++) {
            place = x.listed(ink, i, 0);
            all.add(place);
            all.add(x.listed(ink, i, 1));
        }
    }

    private static void wordHeld(PenLines x, List<Integer> all) {
        all.add(x.list());
        all.add(x.listed(0, 0, 0));
        all.add(x.wipe());
    }

    private static void countsHeld(PenLines x, List<Integer> all) {
        int left = 0;
        while (left != NONE) {
            if (left < 3 || left == 49) {
                all.add(x.seen(A, 1, 0, 0, 0));
                all.add(x.seen(B, 1, 1, 0, 0));
                all.add(x.seen(A, 2, 0, 1, 0));
                all.add(x.seen(D, 1, 1, 0, 0));
                all.add(x.count(3));
                all.add(x.count(4));
            }
            left = x.unteach();
            all.add(left);
        }
        all.add(x.pair(A, B, 1));
        all.add(x.pair(B, A, 1));
        all.add(x.pair(A, A, 1));
    }

    private static void itemsHeld(PenLines x, int sheet, List<Integer> all) {
        for (int i = 0; i < 3; i++) {
            int inks = x.line(sheet, i, 1);
            all.add(inks);
            if (inks == 1) {
                all.add(x.piece(0, 0, 0));
                all.add(x.piece(0, 0, 1));
            }
        }
    }

    private static void sheets() {
        refused("2: sheet below 0", BAD, x -> x.sheet(-1, 0, 1));
        refused("2: sheet 8", BAD, x -> x.sheet(8, 0, 1));
        refused("2: lane below 0", BAD, x -> x.sheet(0, -1, 1));
        refused("2: lane 3", BAD, x -> x.sheet(0, 3, 1));
        refused("2: 81 items", BAD, x -> x.sheet(0, 0, 81));
        refused("2: 81 items on a missing one", BAD, x -> x.sheet(7, 0, 81));
        refused("2: fewer than none", SIZE, x -> x.sheet(0, 0, -1));
        refused("2: fewer than none on a missing one", SIZE, x -> x.sheet(7, 2, -1));
        refused("2: fewest", SIZE, x -> x.sheet(1, 2, LEAST));
        refused("3: sheet below 0", BAD, x -> x.set(-1, 0, 1));
        refused("3: sheet 8", BAD, x -> x.set(8, 0, 1));
        refused("3: missing", NULL, x -> x.set(7, 0, 1));
        refused("3: place below 0", PLACE, x -> x.set(0, -1, 1));
        refused("3: place behind the end", PLACE, x -> x.set(0, 6, 1));
        refused("3: no place", PLACE, x -> x.set(6, 0, 1));
        refused("4: a below 0", BAD, x -> x.copy(-1, 0, 0, 0, 1));
        refused("4: b 8", BAD, x -> x.copy(0, 0, 8, 0, 1));
        refused("4: a missing", NULL, x -> x.copy(7, 0, 0, 0, 1));
        refused("4: b missing", NULL, x -> x.copy(0, 0, 7, 0, 1));
        refused("4: two lanes", STORE, x -> x.copy(0, 0, 1, 0, 1));
        refused("4: i below 0", PLACE, x -> x.copy(5, -1, 4, 0, 1));
        refused("4: j below 0", PLACE, x -> x.copy(5, 0, 4, -1, 1));
        refused("4: n below 0", PLACE, x -> x.copy(5, 0, 4, 0, -1));
        refused("4: beyond the end of a", PLACE, x -> x.copy(5, 1, 4, 0, 4));
        refused("4: beyond the end of b", PLACE, x -> x.copy(5, 0, 4, 1, 4));
        refused("4: beyond both", PLACE, x -> x.copy(1, 0, 1, 1, 8));
        refused("4: far beyond", PLACE, x -> x.copy(5, 1, 4, 1, MOST));
        refused("5: sheet below 0", BAD, x -> x.drop(-1));
        refused("5: sheet 8", BAD, x -> x.drop(8));
        refused("5: missing", NULL, x -> x.drop(7));
    }

    private static void lines() {
        refused("6: sheet below 0", BAD, x -> x.line(-1, 0, 1));
        refused("6: sheet 8", BAD, x -> x.line(8, 0, 1));
        refused("6: no pieces", BAD, x -> x.line(2, 0, 0));
        refused("6: 41 pieces", BAD, x -> x.line(2, 0, 41));
        refused("6: missing", NULL, x -> x.line(7, 0, 1));
        refused("6: place below 0", PLACE, x -> x.line(1, -1, 1));
        refused("6: beyond the end", PLACE, x -> x.line(1, 7, 1));
        refused("6: more than there are", PLACE, x -> x.line(1, 0, 5));
        refused("6: x above 2000", BAD, x -> x.line(5, 0, 1));
        refused("6: shape 13", BAD, x -> x.line(5, 2, 1));
        refused("6: shape 13 behind pieces that are as told", BAD, x -> x.line(3, 0, 3));
        refused("6: beyond the end, and one is not as told", PLACE, x -> x.line(3, 0, 4));
        refused("7: no gap", BAD, x -> x.gap(0));
        refused("7: gap 101", BAD, x -> x.gap(101));
        refused("7: gap of an empty line", Unchanged::fresh, BAD, x -> x.gap(LEAST));
    }

    private static void inks() {
        refused("8: ink below 0", BAD, x -> x.ink(-1, 0));
        refused("8: ink behind the last", BAD, x -> x.ink(INKS, 0));
        refused("8: what below 0", BAD, x -> x.ink(0, -1));
        refused("8: what 3", BAD, x -> x.ink(0, 3));
        refused("9: ink behind the last", BAD, x -> x.piece(INKS, 0, 0));
        refused("9: piece below 0", BAD, x -> x.piece(0, -1, 0));
        refused("9: piece behind the last", BAD, x -> x.piece(0, 2, 0));
        refused("9: what 3", BAD, x -> x.piece(0, 0, 3));
        refused("9: what below 0", BAD, x -> x.piece(0, 0, -1));
    }

    private static void forms() {
        refused("11: letter below 0", BAD, x -> x.form(-1, 1, 0, 0, 0, 1));
        refused("11: letter 26", BAD, x -> x.form(26, 1, 0, 0, 0, 1));
        refused("11: no shapes", BAD, x -> x.form(A, 0, 0, 0, 0, 1));
        refused("11: four shapes", BAD, x -> x.form(A, 4, 0, 0, 0, 1));
        refused("11: a dot for a shape", BAD, x -> x.form(A, 1, DOT, 0, 0, 1));
        refused("11: a dot for the second", BAD, x -> x.form(A, 2, 0, DOT, 0, 1));
        refused("11: below 0 for the third", BAD, x -> x.form(A, 3, 0, 0, -1, 1));
        refused("11: not often", BAD, x -> x.form(A, 1, 0, 0, 0, 0));
        refused("11: too often", BAD, x -> x.form(A, 1, 0, 0, 0, 100));
        refused("11: too often, a new one", BAD, x -> x.form(D, 2, 0, 0, 0, 100));
        refused("12: letter 26", BAD, x -> x.seen(26, 1, 0, 0, 0));
        refused("12: four shapes", BAD, x -> x.seen(A, 4, 0, 0, 0));
        refused("12: shape 12", BAD, x -> x.seen(A, 1, DOT, 0, 0));
        refused("13: a below 0", BAD, x -> x.pair(-1, A, 1));
        refused("13: b 26", BAD, x -> x.pair(A, 26, 1));
        refused("13: not often", BAD, x -> x.pair(A, B, 0));
        refused("13: too often", BAD, x -> x.pair(A, B, 100));
    }

    private static void words() {
        refused("14: letter below 0", BAD, x -> x.letter(-1));
        refused("14: letter 26", BAD, x -> x.letter(26));
        refused("14: a thirteenth letter", Unchanged::full, FULL, x -> x.letter(A));
        refused("14: letter 26 behind twelve", Unchanged::full, BAD, x -> x.letter(26));
        refused("15: there already", STATE, x -> x.list());
        refused("15: empty", Unchanged::usedWithoutWord, STATE, x -> x.list());
        refused("15: a thirty-first word", Unchanged::full, FULL, x -> x.list());
        refused("15: there already, and full", Unchanged::fullWithShortWord, STATE, x -> x.list());
    }

    private static void listedAndOpen() {
        refused("17: ink behind the last", BAD, x -> x.listed(INKS, 0, 0));
        refused("17: what 2", BAD, x -> x.listed(0, 0, 2));
        refused("17: i below 0", NONE, x -> x.listed(0, -1, 0));
        refused("17: not so many", NONE, x -> x.listed(0, 1, 0));
        refused("18: ink below 0", BAD, x -> x.open(-1, 0, 0));
        refused("18: i below 0", BAD, x -> x.open(0, -1, 0));
        refused("18: i 5", BAD, x -> x.open(0, 5, 0));
        refused("18: what below -2", BAD, x -> x.open(0, 0, -3));
        refused("18: what 12", BAD, x -> x.open(0, 0, 12));
        refused("18: not so many readings", NONE, x -> x.open(0, 3, -1));
        refused("18: not so many letters", NONE, x -> x.open(0, 0, 11));
    }

    private static void findAndTeach() {
        refused("19: empty", Unchanged::usedWithoutWord, STATE, x -> x.find(0));
        refused("19: below 0", NONE, x -> x.find(-1));
        refused("19: not so many", NONE, x -> x.find(1));
        refused("19: never spelled", Unchanged::usedWithOtherWord, NONE, x -> x.find(0));
        refused("20: ink below 0", BAD, x -> x.teach(-1));
        refused("20: ink behind the last", BAD, x -> x.teach(INKS));
        refused("20: no reading spells it there", STATE, x -> x.teach(1));
        refused("20: no reading of 15 pieces", STATE, x -> x.teach(3));
        refused("20: no reading spells it anywhere", Unchanged::usedWithOtherWord, STATE, x -> x.teach(0));
        refused("20: empty", Unchanged::usedWithoutWord, STATE, x -> x.teach(0));
        refused("20: empty, 15 pieces", Unchanged::usedWithoutWord, STATE, x -> x.teach(3));
        refused("20: empty, an ink of no readings", Unchanged::usedWithoutWord, STATE, x -> x.teach(2));
        refused("20: a fifty-first", Unchanged::fullWithShortWord, FULL, x -> x.teach(0));
        refused("20: ink behind the last, and full", Unchanged::fullWithShortWord, BAD, x -> x.teach(2));
        refused("20: no reading spells it, and full", Unchanged::full, STATE, x -> x.teach(0));
        refused("21: none", Unchanged::fresh, NONE, x -> x.unteach());
        refused("21: none are left", Unchanged::usedAndUntaught, NONE, x -> x.unteach());
    }

    private static void kindsAndAsks() {
        refused("22: ink below 0", BAD, x -> x.kind(-1));
        refused("22: ink behind the last", BAD, x -> x.kind(INKS));
        refused("23: ink behind the last", BAD, x -> x.as(INKS, 0));
        refused("23: kind below 0", BAD, x -> x.as(0, -1));
        refused("23: kind 4", BAD, x -> x.as(0, 4));
        refused("23: it is not that, too", KIND, x -> x.as(3, 1));
        refused("24: ink below 0", BAD, x -> x.ask(-1, 0));
        refused("24: ink behind the last", BAD, x -> x.ask(INKS, 1));
        refused("24: what below 0", BAD, x -> x.ask(0, -1));
        refused("24: what 2", BAD, x -> x.ask(0, 2));
        refused("25: below 0", NONE, x -> x.trace(-1));
        refused("25: behind the last", NONE, x -> x.trace(7));
        refused("25: 16", NONE, x -> x.trace(16));
        refused("26: below 0", BAD, x -> x.count(-1));
        refused("26: 8", BAD, x -> x.count(8));
    }

    /** Calls that only ask leave everything, too. */
    private static void askedOnly() {
        refused("8: asked", 2, x -> x.ink(0, 0));
        refused("9: asked", 1, x -> x.piece(0, 1, 2));
        refused("10: asked", 1, x -> x.loose());
        refused("12: asked", 3, x -> x.seen(A, 1, 0, 0, 0));
        refused("12: asked for one that was never seen", 0, x -> x.seen(25, 3, 11, 11, 11));
        refused("17: asked", 0, x -> x.listed(0, 0, 0));
        refused("18: asked", 2, x -> x.open(0, 1, -2));
        refused("19: asked, THE WORD stays", 0, x -> x.find(0));
        refused("22: asked", 3, x -> x.kind(2));
        refused("25: asked", 13, x -> x.trace(0));
        refused("26: asked", 7, x -> x.count(0));
        refused("27: asked, nothing ahead", Unchanged::fresh, 0, x -> x.status());
    }
}
