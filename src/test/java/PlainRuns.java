import java.util.ArrayDeque;
import java.util.Arrays;
import java.util.Random;

/**
 * Long mixed runs of calls, the same ones each time, on PenLines and on PlainPens: every answer is the same.
 * Two numbers behind the name choose other runs: the first one, and how many.
 */
public final class PlainRuns {
    private static final int RUNS = 150, CALLS = 512;
    private static final String[] NAMES = {"sheet", "set", "copy", "drop", "line", "gap", "ink", "piece", "loose", "form",
        "seen", "pair", "letter", "list", "wipe", "listed", "open", "find", "teach", "unteach", "kind", "as", "ask", "trace",
        "count", "status"};
    // How often each call comes, by its place among the names.
    private static final int[] OFTEN = {2, 6, 3, 1, 2, 3, 3, 4, 1, 8, 4, 5, 9, 5, 1, 14, 24, 4, 6, 3, 8, 4, 8, 6, 6, 4};
    private static final int[] ODD = {-1, -2, 3, 5, 8, 12, 13, 14, 26, 30, 40, 41, 80, 81, 100, 101, 1000, 2001,
        Integer.MIN_VALUE, Integer.MAX_VALUE, Integer.MAX_VALUE - 1, -1000, 65536, 256, 1 << 30};

    private final Random random;
    private final Checks checks;
    private final ArrayDeque<String> latest = new ArrayDeque<>();
    private final int shapes, letters, widest, longest;
    private PenLines x = new PenLines();
    private PlainPens plain = new PlainPens();
    private int calls = 0;
    private boolean wrong = false;

    private PlainRuns(long seed, Checks checks) {
        random = new Random(seed);
        this.checks = checks;
        shapes = 1 + random.nextInt(3);
        letters = 1 + random.nextInt(5);
        widest = random.nextInt(3) == 0 ? 60 : 12;
        longest = random.nextInt(3) == 0 ? 15 : 9;
    }

    public static void main(String[] args) {
        Checks checks = new Checks();
        int first = args.length == 2 ? Integer.parseInt(args[0]) : 0;
        int many = args.length == 2 ? Integer.parseInt(args[1]) : RUNS;
        for (int seed = first; seed < first + many; seed++) {
            new PlainRuns(seed, checks).run();
        }
        checks.end("PlainRuns");
    }

    private void run() {
        while (calls < CALLS && !wrong) {
            int dice = random.nextInt(60);
            if (dice == 0 || calls == 0) {
                write();
            } else if (dice == 1) {
                lookAtAll();
            } else if (dice < 5) {
                spellReading();
            } else if (dice == 5) {
                learnRow();
            } else {
                int op = pick();
                make(op, arguments(op));
            }
        }
    }

    private int pick() {
        int left = random.nextInt(Arrays.stream(OFTEN).sum());
        for (int op = 0; op < OFTEN.length; op++) {
            left -= OFTEN[op];
            if (left < 0) {
                return op;
            }
        }
        return 0;
    }

    /** A line of a few words, some dots among its pieces. */
    private void write() {
        int n = longest == 15 ? 12 + random.nextInt(6) : 1 + random.nextInt(longest);
        make(0, 0, 1 + random.nextInt(2), 80);
        int at = random.nextInt(40);
        for (int k = 0; k < n; k++) {
            boolean dot = random.nextInt(8) == 0;
            make(1, 0, 2 * k, dot ? Math.max(0, at - random.nextInt(30)) : at);
            make(1, 0, 2 * k + 1, dot ? 12 : random.nextInt(shapes));
            at = Math.max(0, at + random.nextInt(widest) - 2);
        }
        make(4, 0, 0, n);
    }

    /** All that can be asked of an ink. */
    private void lookAtAll() {
        int ink = oneInk();
        make(20, ink);
        for (int i = 0; i < 5; i++) {
            make(16, ink, i, -1);
            make(16, ink, i, -2);
            for (int k = 0; k < 4; k++) {
                make(16, ink, i, k);
            }
        }
        for (int i = 0; i < 4; i++) {
            make(15, ink, i, 0);
            make(15, ink, i, 1);
        }
        make(22, ink, 0);
        make(22, ink, 1);
    }

    /** THE WORD becomes one that an ink may be read as, and is mostly listed, sought or taught. */
    private void spellReading() {
        int ink = oneInk();
        int i = random.nextInt(3);
        if (plain.open(ink, i, -2) < 0) {
            return;
        }
        make(14);
        for (int k = 0; k < plain.open(ink, i, -2); k++) {
            make(12, plain.open(ink, i, k));
        }
        int[] then = {13, 17, 18, 18};
        int op = then[random.nextInt(4)];
        make(op, arguments(op));
    }

    /** A row of shapes becomes one of many letters, some pairs are seen. */
    private void learnRow() {
        int n = oneLength(), s0 = shape(), s1 = shape(), s2 = shape();
        for (int k = 0; k < 2 * letters; k++) {
            make(9, oneLetter(), n, s0, s1, s2, often());
            make(11, oneLetter(), oneLetter(), often());
        }
    }

    /** Mostly such as fit, for each place of each call. */
    private int[] arguments(int op) {
        int ink = oneInk();
        int[] a;
        switch (op) {
            case 0: a = new int[] {random.nextInt(3), random.nextInt(3), random.nextInt(81)}; break;
            case 1: a = new int[] {random.nextInt(3), random.nextInt(20), random.nextInt(40)}; break;
            case 2: a = new int[] {random.nextInt(3), random.nextInt(9), random.nextInt(3), random.nextInt(9), random.nextInt(9)}; break;
            case 3: a = new int[] {1 + random.nextInt(3)}; break;
            case 4: a = new int[] {random.nextInt(2), 2 * random.nextInt(3), 1 + random.nextInt(8)}; break;
            case 5: a = new int[] {1 + random.nextInt(40)}; break;
            case 6: a = new int[] {ink, random.nextInt(3)}; break;
            case 7: a = new int[] {ink, random.nextInt(4), random.nextInt(3)}; break;
            case 9: a = new int[] {oneLetter(), oneLength(), shape(), shape(), shape(), often()}; break;
            case 10: a = new int[] {oneLetter(), oneLength(), shape(), shape(), shape()}; break;
            case 11: a = new int[] {oneLetter(), oneLetter(), often()}; break;
            case 12: a = new int[] {oneLetter()}; break;
            case 15: a = new int[] {ink, random.nextInt(4), random.nextInt(2)}; break;
            case 16: a = new int[] {ink, random.nextInt(5), random.nextInt(8) - 2}; break;
            case 17: a = new int[] {random.nextInt(2)}; break;
            case 18: a = new int[] {ink}; break;
            case 20: a = new int[] {ink}; break;
            case 21: a = new int[] {ink, random.nextInt(4)}; break;
            case 22: a = new int[] {ink, random.nextInt(2)}; break;
            case 23: a = new int[] {random.nextInt(8)}; break;
            case 24: a = new int[] {random.nextInt(8)}; break;
            default: a = new int[0];
        }
        if (a.length > 0 && random.nextInt(12) == 0) {
            a[random.nextInt(a.length)] = ODD[random.nextInt(ODD.length)];
        }
        return a;
    }

    private int oneInk() {
        return random.nextInt(plain.count(1) + (random.nextInt(9) == 0 ? 2 : 1) - (plain.count(1) > 0 ? 1 : 0));
    }

    private int oneLetter() {
        int[] some = {0, 8, 1, 9, 25};
        return letters == some.length ? random.nextInt(26) : some[random.nextInt(letters + 1)];
    }

    private int oneLength() {
        return 1 + (random.nextInt(2) == 0 ? 0 : random.nextInt(3));
    }

    private int shape() {
        return random.nextInt(shapes);
    }

    private int often() {
        return random.nextInt(10) == 0 ? 1 + random.nextInt(99) : 1 + random.nextInt(6);
    }

    private void make(int op, int... a) {
        if (calls >= CALLS || wrong) {
            return;
        }
        calls++;
        int got = ofPenLines(op, a);
        int want = ofPlainPens(op, a);
        String call = NAMES[op] + Arrays.toString(a);
        latest.add(call + " = " + want);
        if (latest.size() > 40) {
            latest.remove();
        }
        wrong = got != want;
        checks.due(wrong ? latest + " at call " + calls + ": " + call : call, got, want);
    }

    private int ofPenLines(int op, int[] a) {
        switch (op) {
            case 0: return x.sheet(a[0], a[1], a[2]);
            case 1: return x.set(a[0], a[1], a[2]);
            case 2: return x.copy(a[0], a[1], a[2], a[3], a[4]);
            case 3: return x.drop(a[0]);
            case 4: return x.line(a[0], a[1], a[2]);
            case 5: return x.gap(a[0]);
            case 6: return x.ink(a[0], a[1]);
            case 7: return x.piece(a[0], a[1], a[2]);
            case 8: return x.loose();
            case 9: return x.form(a[0], a[1], a[2], a[3], a[4], a[5]);
            case 10: return x.seen(a[0], a[1], a[2], a[3], a[4]);
            case 11: return x.pair(a[0], a[1], a[2]);
            case 12: return x.letter(a[0]);
            case 13: return x.list();
            case 14: return x.wipe();
            case 15: return x.listed(a[0], a[1], a[2]);
            case 16: return x.open(a[0], a[1], a[2]);
            case 17: return x.find(a[0]);
            case 18: return x.teach(a[0]);
            case 19: return x.unteach();
            case 20: return x.kind(a[0]);
            case 21: return x.as(a[0], a[1]);
            case 22: return x.ask(a[0], a[1]);
            case 23: return x.trace(a[0]);
            case 24: return x.count(a[0]);
            default: return x.status();
        }
    }

    private int ofPlainPens(int op, int[] a) {
        switch (op) {
            case 0: return plain.sheet(a[0], a[1], a[2]);
            case 1: return plain.set(a[0], a[1], a[2]);
            case 2: return plain.copy(a[0], a[1], a[2], a[3], a[4]);
            case 3: return plain.drop(a[0]);
            case 4: return plain.line(a[0], a[1], a[2]);
            case 5: return plain.gap(a[0]);
            case 6: return plain.ink(a[0], a[1]);
            case 7: return plain.piece(a[0], a[1], a[2]);
            case 8: return plain.loose();
            case 9: return plain.form(a[0], a[1], a[2], a[3], a[4], a[5]);
            case 10: return plain.seen(a[0], a[1], a[2], a[3], a[4]);
            case 11: return plain.pair(a[0], a[1], a[2]);
            case 12: return plain.letter(a[0]);
            case 13: return plain.list();
            case 14: return plain.wipe();
            case 15: return plain.listed(a[0], a[1], a[2]);
            case 16: return plain.open(a[0], a[1], a[2]);
            case 17: return plain.find(a[0]);
            case 18: return plain.teach(a[0]);
            case 19: return plain.unteach();
            case 20: return plain.kind(a[0]);
            case 21: return plain.as(a[0], a[1]);
            case 22: return plain.ask(a[0], a[1]);
            case 23: return plain.trace(a[0]);
            case 24: return plain.count(a[0]);
            default: return plain.status();
        }
    }
}
