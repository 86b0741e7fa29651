/** Promises 22 to 25: kinds of inks, inks taken as one of a kind, asks, THE TRACE. */
public final class AskPromises {
    private static final Checks C = new Checks();
    private static final int NONE = Checks.NONE, BAD = Checks.BAD, KIND = Checks.KIND, DOT = Checks.DOT;
    private static final int LEAST = Checks.LEAST, MOST = Checks.MOST;
    private static final int A = 0, B = 1;

    public static void main(String[] args) {
        promise22();
        promise22Now();
        promise23();
        promise24();
        promise24Anew();
        promise25();
        C.end("AskPromises");
    }

    /** One ink of a piece with a dot, one of two pieces, one of none that are known. */
    private static PenLines written() {
        PenLines x = new PenLines();
        Checks.write(x, 0, 0, 0, DOT, 100, 1, 105, 1, 200, 2, 200, DOT, 203, DOT);
        return x;
    }

    private static void traced(String what, PenLines x, int... bodies) {
        for (int i = 0; i < 18; i++) {
            C.due(what + ": trace " + i, x.trace(i), i < bodies.length ? bodies[i] : NONE);
        }
    }

    private static void promise22() {
        PenLines x = new PenLines();
        C.all("22: no ink", BAD, x.kind(0), x.kind(-1));
        x = written();
        C.all("22: bad", BAD, x.kind(-1), x.kind(3), x.kind(LEAST), x.kind(MOST));
        C.due("22: nothing is known", x.kind(0), 0);
        x.form(B, 1, 0, 0, 0, 1);
        C.due("22: one reading alone is sure", x.kind(0), 2);
        x.form(A, 1, 0, 0, 0, 1);
        C.due("22: a second one as good", x.kind(0), 1);
        x.form(A, 1, 0, 0, 0, 2);
        C.due("22: 3 less", x.kind(0), 1);
        x.form(A, 1, 0, 0, 0, 1);
        C.due("22: 4 less", x.kind(0), 2);
        Checks.put(x, B);
        C.due("22: the second one is in the list", x.kind(0), 2);
        Checks.put(x, A, A);
        C.due("22: a longer word is in the list", x.kind(0), 2);
        Checks.put(x, A);
        C.due("22: the first one is in the list", x.kind(0), 3);
        C.due("22: another ink", x.kind(1), 0);
        x.form(B, 1, 0, 0, 0, 1);
        C.due("22: listed needs sure", x.kind(0), 1);
    }

    private static void promise22Now() {
        PenLines x = written();
        x.form(A, 1, 1, 0, 0, 1);
        C.due("22: by now", x.kind(1), 2);
        x.form(B, 2, 1, 1, 0, 1);
        C.due("22: 18 and 6", x.kind(1), 2);
        x.pair(A, A, 99);
        C.due("22: 12 and 6", x.kind(1), 2);
        x.form(A, 1, 1, 0, 0, 1);
        C.due("22: 8 and 6", x.kind(1), 1);
        Checks.spell(x, A, A);
        x.teach(1);
        C.due("22: 4 and 6", x.kind(1), 1);
        x.form(A, 1, 1, 0, 0, 5);
        C.due("22: 2 and 6", x.kind(1), 2);
        Checks.put(x, A, A);
        C.due("22: listed", x.kind(1), 3);
        x.unteach();
        C.due("22: untaught", x.kind(1), 1);
        x.gap(1);
        C.due("22: parted anew", x.kind(1), 2);
        Checks.writeShapes(x, 1, 1, 1, 1, 1, 1, 1, 1, 1, 1, 1, 1, 1, 1, 1);
        x.gap(100);
        C.due("22: 15 pieces", x.kind(0), 0);
        C.due("22: no words of 13 letters", Checks.writeShapes(x, 2, 2, 2, 2, 2, 2, 2, 2, 2, 2, 2, 2, 2), 1);
        x.form(A, 1, 2, 0, 0, 1);
        C.due("22: so it is not read", x.kind(0), 0);
        x.form(A, 2, 2, 2, 0, 1);
        C.due("22: now it is", x.kind(0), 2);
    }

    private static void promise23() {
        PenLines x = written();
        C.all("23: bad", BAD, x.as(-1, 0), x.as(3, 0), x.as(0, -1), x.as(0, 4), x.as(MOST, 0), x.as(0, LEAST), x.as(3, 3));
        C.due("23: an ink", x.as(1, 0), 2);
        C.all("23: it is not that", KIND, x.as(1, 1), x.as(1, 2), x.as(1, 3));
        C.due("23: status", x.status(), 3);
        x.form(A, 1, 1, 0, 0, 6);
        x.form(B, 2, 1, 1, 0, 1);
        C.due("23: read, by kind", x.kind(1), 1);
        C.all("23: read", 2, x.as(1, 0), x.as(1, 1));
        C.due("23: status of none", x.status(), 0);
        C.all("23: not sure", KIND, x.as(1, 2), x.as(1, 3));
        x.form(B, 2, 1, 1, 0, 98);
        C.all("23: sure", 2, x.as(1, 0), x.as(1, 1), x.as(1, 2));
        C.due("23: not listed", x.as(1, 3), KIND);
        Checks.put(x, B);
        C.all("23: listed", 2, x.as(1, 0), x.as(1, 1), x.as(1, 2), x.as(1, 3));
        C.due("23: its pieces, but dots", x.as(2, 0), 1);
    }

    private static void promise24() {
        PenLines x = written();
        C.all("24: bad", BAD, x.ask(-1, 0), x.ask(3, 0), x.ask(0, -1), x.ask(0, 2), x.ask(MOST, 1), x.ask(0, LEAST));
        C.due("24: size of an ink", x.ask(1, 0), 2);
        traced("24: 10", x, 10);
        C.due("24: mark of an ink", x.ask(2, 1), 2);
        traced("24: 20", x, 20);
        x.form(A, 1, 0, 0, 0, 1);
        x.form(B, 1, 0, 0, 0, 1);
        C.due("24: size of a read one", x.ask(0, 0), 1 + 10);
        traced("24: 11", x, 11, 10);
        C.due("24: mark of a read one is lent", x.ask(0, 1), 1);
        traced("24: lent", x, 20);
        x.form(B, 1, 0, 0, 0, 98);
        C.due("24: size of a sure one", x.ask(0, 0), 2 * (1 + 4));
        traced("24: 12", x, 12, 11, 10);
        C.due("24: mark of a sure one", x.ask(0, 1), 101);
        traced("24: 21", x, 21, 20);
        for (int letter = 25; letter > 20; letter--) {
            Checks.put(x, letter);
        }
        C.due("24: the list has it not", x.ask(0, 0), 10);
        Checks.put(x, B);
        C.due("24: mark of a listed one", x.ask(0, 1), 1 + 100 + 5);
        traced("24: 22", x, 22, 21, 20);
        C.due("24: size of a listed one", x.ask(0, 0), 10 + 106);
        traced("24: 13", x, 13, 12, 11, 10, 22, 21, 20);
        C.due("24: it has no status", x.status(), 0);
    }

    private static void promise24Anew() {
        PenLines x = written();
        x.form(A, 1, 1, 0, 0, 3);
        x.pair(A, A, 2);
        C.due("24: cost is that of the open reading", x.ask(1, 0), 2 * (2 + 8));
        Checks.put(x, A, A);
        C.due("24: place 0", x.ask(1, 1), 100);
        C.due("24: of place 0", x.ask(1, 0), 20 + 100);
        C.due("24: another ink in between", x.ask(0, 0), 1);
        C.due("24: the same again", x.ask(1, 0), 20 + 100);
        Checks.writeShapes(x, 5, 5, 5, 5, 5, 5, 5, 5, 5, 5, 5, 5, 5, 5, 5);
        C.due("24: 15 pieces", x.ask(0, 0), 15);
    }

    private static void promise25() {
        PenLines x = written();
        C.all("25: empty at first", NONE, x.trace(0), x.trace(-1), x.trace(15), x.trace(LEAST), x.trace(MOST));
        x.form(A, 1, 0, 0, 0, 1);
        x.ask(0, 0);
        traced("25: as they begin", x, 12, 11, 10);
        C.all("25: none", NONE, x.trace(-1), x.trace(3), x.trace(16), x.trace(LEAST), x.trace(MOST));
        C.all("25: bad asks", BAD, x.ask(9, 0), x.ask(0, 2));
        traced("25: the trace stays then", x, 12, 11, 10);
        x.kind(0);
        x.as(0, 3);
        x.open(0, 0, 0);
        Checks.spell(x, A);
        x.teach(0);
        x.gap(29);
        traced("25: other calls leave it", x, 12, 11, 10);
        x.ask(1, 1);
        traced("25: empty ahead of an ask", x, 20);
    }
}
