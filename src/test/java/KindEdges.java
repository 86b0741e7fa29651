import java.util.Arrays;

/** Promises 22 to 25, edge by edge: kinds, inks taken as one of a kind, asks, THE TRACE. */
public final class KindEdges {
    private static final Checks C = new Checks();
    private static final int NONE = Checks.NONE, BAD = Checks.BAD, KIND = Checks.KIND, DOT = Checks.DOT;
    private static final int LEAST = Checks.LEAST, MOST = Checks.MOST;
    private static final int INK = 0, READ = 1, SURE = 2, LISTED = 3;
    private static final int A = 0, B = 1, Z = 25;

    public static void main(String[] args) {
        promise22();
        promise22By4();
        promise22Listed();
        promise22Now();
        promise23();
        promise23Findings();
        promise24();
        promise24Bad();
        promise24ByKind();
        promise24Places();
        promise25();
        promise25Kept();
        C.end("KindEdges");
    }

    private static void promise22() {
        PenLines x = new PenLines();
        C.all("22: no ink in an empty line", BAD, x.kind(0), x.kind(-1));
        Checks.write(x, 0, 0, 100, 1, 200, DOT);
        C.all("22: inks that are none", BAD, x.kind(-1), x.kind(2), x.kind(LEAST), x.kind(MOST));
        C.due("22: the first, nothing reads it", x.kind(0), INK);
        C.due("22: the last, nothing reads it", x.kind(1), INK);
        x.form(A, 1, 0, 0, 0, 1);
        C.due("22: no second open reading", x.kind(0), SURE);
        C.due("22: another ink", x.kind(1), INK);
        Checks.put(x, B);
        C.due("22: its reading is not in the list", x.kind(0), SURE);
        Checks.put(x, A);
        C.due("22: its reading is in the list", x.kind(0), LISTED);
        Checks.writeShapes(x, 1);
        C.due("22: a list alone reads nothing", x.kind(0), INK);
        Checks.writeShapes(x, new int[15]);
        x.form(A, 3, 0, 0, 0, 1);
        C.due("22: 15 pieces", x.kind(0), INK);
        Checks.writeShapes(x, new int[14]);
        C.due("22: 14 pieces are read", x.kind(0) >= READ ? 1 : 0, 1);
    }

    /** It has no second OPEN READING, or one that costs 4 more at least. */
    private static void promise22By4() {
        int[] often = {1, 2, 3, 4, 6, 12};
        int[] cost = {6, 4, 3, 2, 1, 0};
        for (int first = 0; first < 6; first++) {
            for (int second = 0; second < 6; second++) {
                PenLines x = new PenLines();
                Checks.writeShapes(x, 5);
                x.form(A, 1, 5, 0, 0, often[first]);
                x.form(B, 1, 5, 0, 0, often[second]);
                int apart = Math.abs(cost[first] - cost[second]);
                int due = apart >= 4 ? SURE : READ;
                C.due("22: " + apart + " apart", x.kind(0), due);
                Checks.put(x, cost[first] <= cost[second] ? A : B);
                C.due("22: " + apart + " apart, the first in the list", x.kind(0), due == SURE ? LISTED : READ);
            }
        }
        PenLines x = new PenLines();
        Checks.write(x, 0, 0, 0, DOT);
        x.form(8, 1, 0, 0, 0, 12);
        x.form(A, 1, 0, 0, 0, 99);
        C.due("22: 4 more by its dot", x.kind(0), SURE);
        Checks.writeShapes(x, 0);
        C.due("22: 5 more without one", x.kind(0), SURE);
        x.form(B, 1, 0, 0, 0, 3);
        C.due("22: 3 more, with 5 more behind it", x.kind(0), READ);
        PenLines y = new PenLines();
        Checks.writeShapes(y, 0, 0);
        y.form(A, 1, 0, 0, 0, 12);
        y.form(B, 2, 0, 0, 0, 6);
        C.due("22: a pair of 6 is 5 more", y.kind(0), SURE);
        y.pair(A, A, 1);
        C.due("22: a pair of 3 is 2 more", y.kind(0), READ);
        y.pair(A, A, 5);
        C.due("22: a pair of 0 is 1 less", y.kind(0), READ);
    }

    /** Its first OPEN READING is in THE LIST. */
    private static void promise22Listed() {
        PenLines x = new PenLines();
        Checks.writeShapes(x, 0, 0);
        x.form(A, 1, 0, 0, 0, 12);
        x.form(B, 2, 0, 0, 0, 1);
        x.pair(A, A, 6);
        C.opens("22: as it is read", x, 0, "0 aa", "6 b");
        Checks.put(x, B);
        C.due("22: the second reading is in the list", x.kind(0), SURE);
        Checks.put(x, A);
        C.due("22: the beginning of the first", x.kind(0), SURE);
        Checks.put(x, A, A, A);
        C.due("22: what it is the beginning of", x.kind(0), SURE);
        Checks.spell(x, A, A);
        C.due("22: the first is the word, and not in the list yet", x.kind(0), SURE);
        x.list();
        C.due("22: the first is in the list", x.kind(0), LISTED);
        x.form(B, 2, 0, 0, 0, 2);
        C.due("22: in the list, and 3 apart", x.kind(0), READ);
    }

    /** As things are now. */
    private static void promise22Now() {
        PenLines x = new PenLines();
        Checks.write(x, 0, 0, 20, 1);
        x.form(A, 1, 0, 0, 0, 1);
        x.form(A, 1, 1, 0, 0, 1);
        x.form(B, 2, 0, 1, 0, 1);
        C.due("22: 18 and 6", x.kind(0), SURE);
        Checks.put(x, B);
        C.due("22: listed now", x.kind(0), LISTED);
        x.gap(19);
        C.due("22: two inks by another gap", x.count(1), 2);
        C.due("22: the first of them", x.kind(0), SURE);
        x.gap(20);
        C.due("22: one ink again", x.kind(0), LISTED);
        Checks.spell(x, A, A);
        x.teach(0);
        C.due("22: taught, 4 + 3 + 4 and 6", x.kind(0), LISTED);
        Checks.spell(x, A, A);
        x.teach(0);
        C.due("22: taught again, 3 + 2 + 3 and 6", x.kind(0), READ);
        x.unteach();
        C.due("22: untaught", x.kind(0), LISTED);
        x.pair(A, A, 1);
        C.due("22: a pair, 4 + 2 + 4 and 6", x.kind(0), LISTED);
        x.form(A, 1, 0, 0, 0, 1);
        C.due("22: a form, 3 + 2 + 4 and 6", x.kind(0), READ);
        Checks.write(x, 0, 0, 20, 2);
        C.due("22: another line", x.kind(0), INK);
    }

    /** One ink of each kind: 0 INK (two pieces), 1 READ (one), 2 SURE (one, two dots), 3 LISTED (three, one dot). */
    private static PenLines fourKinds() {
        PenLines x = new PenLines();
        Checks.write(x, 0, 0, 10, 0, 100, 1, 200, 2, 200, DOT, 205, DOT, 300, 3, 310, 4, 320, 5, 321, DOT);
        x.form(A, 1, 1, 0, 0, 2);
        x.form(B, 1, 1, 0, 0, 1);
        x.form(Z, 1, 2, 0, 0, 3);
        x.form(8, 3, 3, 4, 5, 4);
        Checks.put(x, B);
        Checks.put(x, A);
        Checks.put(x, 8);
        return x;
    }

    /** An INK is taken as one of a KIND (0 .. 3): its PIECES. */
    private static void promise23() {
        PenLines x = fourKinds();
        int[] pieces = {2, 1, 1, 3};
        for (int ink = 0; ink < 4; ink++) {
            C.due("22: kind of ink " + ink, x.kind(ink), ink);
            for (int kind = 0; kind < 4; kind++) {
                C.due("23: ink " + ink + " as " + kind, x.as(ink, kind), kind <= ink ? pieces[ink] : KIND);
                C.due("27: status of it", x.status(), kind <= ink ? 0 : 3);
            }
            C.due("23: kind -1", x.as(ink, -1), BAD);
            C.due("23: kind 4", x.as(ink, 4), BAD);
            C.due("23: least kind", x.as(ink, LEAST), BAD);
            C.due("23: most kind", x.as(ink, MOST), BAD);
            C.due("27: status stays", x.status(), ink < 3 ? 3 : 0);
        }
    }

    private static void promise23Findings() {
        PenLines x = fourKinds();
        C.all("23: inks that are none", BAD, x.as(-1, 0), x.as(4, 0), x.as(LEAST, 0), x.as(MOST, 0));
        C.all("23: BAD goes ahead of KIND", BAD, x.as(4, 3), x.as(-1, 3), x.as(0, 4));
        C.due("27: status of BAD", x.status(), 0);
        C.due("23: no ink in an empty line", new PenLines().as(0, 0), BAD);
        Checks.writeShapes(x, new int[40]);
        C.due("23: forty pieces", x.as(0, 0), 40);
        C.due("23: which are not read", x.as(0, 1), KIND);
    }

    private static void asked(String what, PenLines x, int ink, int ask, int due, int... bodies) {
        C.due("24: " + what, x.ask(ink, ask), due);
        for (int i = 0; i < 16; i++) {
            C.due("25: " + what + ", number " + i, x.trace(i), i < bodies.length ? bodies[i] : NONE);
        }
    }

    /** The BODY told for the KIND, else that of the nearest KIND that it is, too, else the one that is lent. */
    private static void promise24() {
        PenLines x = fourKinds();
        asked("size of an ink", x, 0, 0, 2, 10);
        asked("size of a read one: 1 and 4", x, 1, 0, 5, 11, 10);
        asked("size of a sure one: twice 1 and 3 and 4", x, 2, 0, 16, 12, 11, 10);
        asked("size of a listed one: twice 3 and 2, and its mark of 1, 100 and 2", x, 3, 0, 10 + 103, 13, 12, 11, 10, 22, 21, 20);
        asked("mark of an ink", x, 0, 1, 0, 20);
        asked("mark of a read one", x, 1, 1, 0, 20);
        asked("mark of a sure one", x, 2, 1, 102, 21, 20);
        asked("mark of a listed one", x, 3, 1, 103, 22, 21, 20);
        C.due("27: asks leave status", x.status(), 0);
    }

    private static void promise24Bad() {
        PenLines x = fourKinds();
        asked("mark of a sure one", x, 2, 1, 102, 21, 20);
        C.all("24: inks that are none", BAD, x.ask(-1, 0), x.ask(4, 0), x.ask(LEAST, 1), x.ask(MOST, 1));
        C.all("24: what is none", BAD, x.ask(0, -1), x.ask(0, 2), x.ask(3, LEAST), x.ask(3, MOST), x.ask(4, 2));
        C.due("24: the trace stays then", x.trace(0), 21);
        C.due("24: its second number, too", x.trace(1), 20);
        C.due("24: and its end", x.trace(2), NONE);
        C.due("24: no ink in an empty line", new PenLines().ask(0, 0), BAD);
        Checks.write(x, 7, DOT);
        C.due("24: no ink in a line of a dot", x.ask(0, 1), BAD);
        C.due("24: the trace stays then, too", x.trace(0), 21);
    }

    /** One ink that goes through all kinds: one piece, two dots. */
    private static void promise24ByKind() {
        PenLines x = new PenLines();
        Checks.write(x, 50, 0, 45, DOT, 55, DOT);
        asked("nothing reads it, size", x, 0, 0, 1, 10);
        asked("nothing reads it, mark", x, 0, 1, 2, 20);
        x.form(9, 1, 0, 0, 0, 1);
        asked("sure by its one reading, size", x, 0, 0, 2 * (1 + 6), 12, 11, 10);
        asked("sure by its one reading, mark", x, 0, 1, 102, 21, 20);
        x.form(A, 1, 0, 0, 0, 3);
        asked("read, 6 and 7, size", x, 0, 0, 1 + 6, 11, 10);
        asked("read, 6 and 7, mark", x, 0, 1, 2, 20);
        Checks.put(x, 9);
        asked("read, and in the list, size", x, 0, 0, 1 + 6, 11, 10);
        asked("read, and in the list, mark", x, 0, 1, 2, 20);
        x.form(9, 1, 0, 0, 0, 2);
        asked("listed, 3 and 7, mark", x, 0, 1, 102, 22, 21, 20);
        asked("listed, 3 and 7, size", x, 0, 0, 2 * (1 + 3) + 102, 13, 12, 11, 10, 22, 21, 20);
        Checks.writeShapes(x, new int[40]);
        asked("forty pieces, size", x, 0, 0, 40, 10);
        x.sheet(0, 0, 80);
        for (int k = 1; k < 40; k++) {
            x.set(0, 2 * k + 1, DOT);
        }
        x.line(0, 0, 40);
        asked("thirty-nine dots, mark", x, 0, 1, 39 + 100, 22, 21, 20);
    }

    /** The place in THE LIST: from 0 to 29. */
    private static void promise24Places() {
        PenLines x = new PenLines();
        Checks.writeShapes(x, 0, 0);
        x.form(A, 2, 0, 0, 0, 99);
        x.form(Z, 1, 0, 0, 0, 1);
        for (int place = 0; place < 29; place++) {
            Checks.put(x, B, place % 26, place / 26);
        }
        asked("not in the list", x, 0, 1, 100, 21, 20);
        C.due("24: place 29", Checks.put(x, A), 29);
        asked("the last of the list, mark", x, 0, 1, 129, 22, 21, 20);
        asked("the last of the list, size", x, 0, 0, 2 * 2 + 129, 13, 12, 11, 10, 22, 21, 20);
        PenLines y = new PenLines();
        Checks.writeShapes(y, 0, 0);
        y.form(A, 2, 0, 0, 0, 99);
        C.due("24: place 0", Checks.put(y, A), 0);
        asked("the first of the list, mark", y, 0, 1, 100, 22, 21, 20);
    }

    private static void promise25() {
        PenLines x = fourKinds();
        int[] none = {-1, 0, 1, 15, 16, 17, LEAST, MOST};
        for (int i : none) {
            C.due("25: empty at first, number " + i, x.trace(i), NONE);
        }
        x.ask(3, 0);
        int[] bodies = {13, 12, 11, 10, 22, 21, 20};
        for (int i = -2; i < 20; i++) {
            C.due("25: number " + i, x.trace(i), i >= 0 && i < 7 ? bodies[i] : NONE);
        }
        C.all("25: far numbers", NONE, x.trace(LEAST), x.trace(MOST));
        x.ask(0, 1);
        C.due("25: empty ahead of an ask", x.trace(0), 20);
        C.due("25: nothing is left of the ask ahead", x.trace(1), NONE);
        for (int k = 0; k < 20; k++) {
            x.ask(3, 0);
        }
        C.due("25: nor do asks go behind one another", x.trace(0), 13);
        C.due("25: the last number of the last ask", x.trace(6), 20);
        C.due("25: there are no more", x.trace(7), NONE);
    }

    /** Other calls leave THE TRACE, those that are refused and those that ask for a kind, too. */
    private static void promise25Kept() {
        PenLines x = fourKinds();
        x.ask(3, 0);
        int[] made = {x.kind(2), x.as(2, 2), x.as(0, 3), x.open(2, 0, 0), x.listed(3, 0, 0), x.gap(20), x.line(7, 0, 1),
            x.sheet(7, 0, 4), x.letter(Z), x.find(0), x.teach(0), x.wipe(), x.unteach(), x.form(0, 1, 0, 0, 0, 1),
            x.pair(0, 0, 1), x.count(0), x.trace(9), x.drop(7), x.status(), x.loose(), x.list()};
        C.due("25: calls that leave it", made.length, 21);
        int[] bodies = {13, 12, 11, 10, 22, 21, 20};
        int[] left = new int[7];
        for (int i = 0; i < 7; i++) {
            left[i] = x.trace(i);
        }
        C.isTrue("25: it is left " + Arrays.toString(left), Arrays.equals(left, bodies));
    }
}
