/** Promises 1 to 5 and 27: a new object, sheets, and the finding of the latest call with one. */
public final class SheetPromises {
    private static final Checks C = new Checks();
    private static final int BAD = Checks.BAD, NULL = Checks.NULL, PLACE = Checks.PLACE;
    private static final int SIZE = Checks.SIZE, STORE = Checks.STORE, LEAST = Checks.LEAST, MOST = Checks.MOST;

    public static void main(String[] args) {
        promise1();
        promise2();
        promise3();
        promise4();
        promise4Overlapping();
        promise5();
        promise27();
        C.end("SheetPromises");
    }

    /** Item i of a sheet, by the x of a line that begins there (so from 0 to 2000, with a shape behind it). */
    private static int item(PenLines x, int sheet, int i) {
        return x.line(sheet, i, 1) == 1 ? x.piece(0, 0, 0) : -1;
    }

    private static void promise1() {
        PenLines x = new PenLines();
        for (int what = 0; what < 8; what++) {
            C.due("1: count " + what, x.count(what), 0);
        }
        for (int sheet = 0; sheet < 8; sheet++) {
            C.due("1: sheet is missing", x.drop(sheet), NULL);
        }
        C.due("1: an empty line has no ink", x.ink(0, 0), BAD);
        C.due("1: no loose dot", x.loose(), 0);
        C.due("1: no form", x.seen(0, 1, 0, 0, 0), 0);
        C.due("1: no pair", x.count(4), 0);
        C.due("1: an empty word", x.wipe(), 0);
        C.due("1: the first word of the list", Checks.put(x, 4), 0);
        C.due("1: nothing to unteach", x.unteach(), Checks.NONE);
        C.due("1: an empty trace", x.trace(0), Checks.NONE);
        C.due("1: gap", x.gap(30), 30);
        C.due("1: status of a new object", new PenLines().status(), 0);
    }

    private static void promise2() {
        PenLines x = new PenLines();
        C.due("2: none", x.sheet(0, 0, 0), 0);
        C.due("2: most", x.sheet(7, 2, 80), 80);
        C.all("2: bad", BAD, x.sheet(-1, 0, 1), x.sheet(8, 0, 1), x.sheet(LEAST, 0, 1), x.sheet(MOST, 0, 1),
                x.sheet(0, -1, 1), x.sheet(0, 3, 1), x.sheet(0, LEAST, 1), x.sheet(0, 0, 81), x.sheet(0, 0, MOST));
        C.all("2: bad goes ahead of size", BAD, x.sheet(8, 0, -1), x.sheet(0, 3, -1));
        C.all("2: size", SIZE, x.sheet(0, 0, -1), x.sheet(7, 1, LEAST), x.sheet(3, 1, -1));
        C.due("2: what is refused changes nothing", x.count(0), 2);
        C.due("2: the sheet that was there stays", x.drop(7), 80);
        x.sheet(1, 2, 4);
        x.set(1, 0, 9);
        C.due("2: what was set", item(x, 1, 0), 9);
        C.due("2: in place of what is there", x.sheet(1, 1, 2), 2);
        C.due("2: items are 0 at first", item(x, 1, 0), 0);
        C.due("2: the new size holds", x.set(1, 2, 0), PLACE);
        C.due("2: the new lane holds", x.set(1, 0, 32768), -32768);
        C.due("2: still one sheet there", x.count(0), 2);
    }

    private static void promise3() {
        PenLines x = new PenLines();
        x.sheet(0, 0, 2);
        x.sheet(1, 1, 2);
        x.sheet(2, 2, 80);
        x.sheet(3, 2, 0);
        int[] given = {0, 127, 128, -129, 255, 256, 300, -1, LEAST, MOST};
        int[] bytes = {0, 127, -128, 127, -1, 0, 44, -1, 0, -1};
        for (int k = 0; k < given.length; k++) {
            C.due("3: byte of " + given[k], x.set(0, 0, given[k]), bytes[k]);
        }
        int[] wide = {32767, 32768, -32769, 65535, 65536 + 5, LEAST, MOST};
        int[] shorts = {32767, -32768, 32767, -1, 5, 0, -1};
        for (int k = 0; k < wide.length; k++) {
            C.due("3: short of " + wide[k], x.set(1, 1, wide[k]), shorts[k]);
            C.due("3: int of " + wide[k], x.set(2, 79, wide[k]), wide[k]);
        }
        C.all("3: bad", BAD, x.set(-1, 0, 0), x.set(8, 0, 0), x.set(MOST, -1, 0));
        C.all("3: null", NULL, x.set(4, 0, 0), x.set(4, -1, 0));
        C.all("3: place", PLACE, x.set(0, -1, 0), x.set(0, 2, 0), x.set(2, 80, 0), x.set(3, 0, 0),
                x.set(0, LEAST, 0), x.set(0, MOST, 0));
        x.set(0, 0, 300);
        C.due("3: what it becomes stays", item(x, 0, 0), 44);
    }

    private static void promise4() {
        PenLines x = new PenLines();
        x.sheet(0, 2, 6);
        x.sheet(1, 2, 4);
        x.sheet(2, 1, 4);
        x.sheet(4, 2, 0);
        for (int k = 0; k < 6; k++) {
            x.set(0, k, k + 1);
        }
        C.due("4: copied", x.copy(0, 1, 1, 2, 2), 2);
        C.due("4: the first one came", item(x, 1, 2), 2);
        C.due("4: the second one came", x.piece(0, 0, 1), 3);
        C.due("4: nothing came ahead of it", item(x, 1, 0), 0);
        C.due("4: what it was taken from stays", item(x, 0, 1), 2);
        C.all("4: none", 0, x.copy(0, 6, 1, 4, 0), x.copy(4, 0, 4, 0, 0), x.copy(0, 0, 4, 0, 0));
        C.all("4: bad", BAD, x.copy(-1, 0, 0, 0, 1), x.copy(0, 0, 8, 0, 1), x.copy(8, 0, 3, 0, 1));
        C.all("4: null", NULL, x.copy(3, 0, 0, 0, 1), x.copy(0, 0, 3, 0, 1), x.copy(3, -1, 2, 0, 1));
        C.all("4: store", STORE, x.copy(0, 0, 2, 0, 1), x.copy(2, 0, 0, 0, 0), x.copy(0, -1, 2, 0, 1));
        C.all("4: place", PLACE, x.copy(0, -1, 1, 0, 1), x.copy(0, 0, 1, -1, 1), x.copy(0, 0, 1, 0, -1),
                x.copy(0, 5, 1, 0, 2), x.copy(0, 0, 1, 3, 2), x.copy(0, 7, 1, 0, 0), x.copy(0, 0, 1, 5, 0),
                x.copy(0, 2, 1, 0, MOST), x.copy(0, MOST, 1, 0, 1), x.copy(0, 0, 1, MOST, 2), x.copy(0, 0, 0, 0, LEAST));
        C.due("4: what was found changes nothing", item(x, 1, 2), 2);
    }

    private static void promise4Overlapping() {
        PenLines x = new PenLines();
        x.sheet(0, 0, 5);
        for (int k = 0; k < 5; k++) {
            x.set(0, k, k + 1);
        }
        C.due("4: to the right of itself", x.copy(0, 0, 0, 1, 4), 4);
        int[] right = {1, 1, 2, 3};
        for (int k = 0; k < 4; k++) {
            C.due("4: as they were ahead, right " + k, item(x, 0, k), right[k]);
        }
        C.due("4: to the left of itself", x.copy(0, 1, 0, 0, 4), 4);
        int[] left = {1, 2, 3, 4};
        for (int k = 0; k < 4; k++) {
            C.due("4: as they were ahead, left " + k, item(x, 0, k), left[k]);
        }
    }

    private static void promise5() {
        PenLines x = new PenLines();
        x.sheet(0, 1, 17);
        x.sheet(7, 1, 0);
        C.all("5: bad", BAD, x.drop(-1), x.drop(8), x.drop(LEAST), x.drop(MOST));
        C.due("5: null", x.drop(3), NULL);
        C.due("5: how many items", x.drop(0), 17);
        C.due("5: missing from now on", x.drop(0), NULL);
        C.due("5: missing for set, too", x.set(0, 0, 0), NULL);
        C.due("5: none", x.drop(7), 0);
        C.due("5: no sheets", x.count(0), 0);
        Checks.write(x, 4, 4);
        x.drop(7);
        C.due("5: the line stays", x.piece(0, 0, 0), 4);
    }

    private static void promise27() {
        PenLines x = new PenLines();
        x.sheet(0, 0, -1);
        C.due("27: size", x.status(), 4);
        x.sheet(9, 0, -1);
        x.set(-1, 0, 0);
        x.copy(0, 0, 8, 0, 1);
        x.drop(8);
        x.line(0, 0, 0);
        x.as(0, 0);
        C.due("27: what was BAD is passed over", x.status(), 4);
        x.drop(0);
        C.due("27: null", x.status(), 1);
        x.sheet(0, 0, 4);
        C.due("27: it had none", x.status(), 0);
        x.set(0, 4, 0);
        C.due("27: place", x.status(), 2);
        x.set(0, 0, 5);
        C.due("27: set had none", x.status(), 0);
        x.sheet(1, 1, 4);
        x.copy(0, 0, 1, 0, 1);
        C.due("27: store", x.status(), 5);
        x.gap(30);
        x.letter(3);
        x.list();
        x.list();
        x.count(0);
        x.kind(0);
        C.due("27: other calls are passed over", x.status(), 5);
        x.copy(0, 0, 0, 1, 1);
        C.due("27: copy had none", x.status(), 0);
        x.line(0, 3, 1);
        C.due("27: place of a line", x.status(), 2);
        x.set(0, 1, 13);
        x.line(5, 0, 1);
        C.due("27: null of a line", x.status(), 1);
        x.line(0, 0, 1);
        C.due("27: a line that is BAD late is passed over, too", x.status(), 1);
        x.set(0, 1, 1);
        x.line(0, 9, 1);
        x.line(0, 0, 1);
        C.due("27: line had none", x.status(), 0);
        x.as(0, 1);
        C.due("27: kind", x.status(), 3);
        x.as(0, 4);
        x.as(1, 0);
        C.due("27: as that was BAD is passed over", x.status(), 3);
        x.as(0, 0);
        C.due("27: as had none", x.status(), 0);
        x.drop(6);
        x.drop(1);
        C.due("27: drop had none", x.status(), 0);
    }
}
