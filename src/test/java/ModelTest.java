import java.util.Random;

/** Plays long runs from fixed seeds on the class and on a plain second reading, and compares every answer. */
public final class ModelTest {
    private static final int RUNS = 600;
    private static final int CALLS = 512;
    private static final int[] EDGES = {-1, -2, Integer.MIN_VALUE, Integer.MAX_VALUE, 65536, 400, 16, 9};

    private final Check check = new Check();
    private Random random;
    private UnderText desk;
    private PlainModel model;
    private String trueText;
    private int noise;
    private int rulings;

    public static void main(String[] args) {
        ModelTest test = new ModelTest();
        for (int run = 0; run < RUNS && test.check.wrongSoFar() < 20; run++) {
            test.play(run);
        }
        test.check.end();
    }

    private void play(int seed) {
        random = new Random(seed);
        desk = new UnderText();
        model = new PlainModel();
        noise = random.nextInt(30);
        rulings = 1 + random.nextInt(3);
        trueText = "";
        int calls = 0;
        while (calls < CALLS) {
            calls += step("seed " + seed + " call " + calls + ": ", CALLS - calls);
        }
    }

    /** Answers how many calls it made. */
    private int step(String at, int left) {
        int kind = random.nextInt(100);
        if (kind < 2 || trueText.isEmpty()) {
            return newWork(at, left);
        }
        if (kind < 6) {
            int part = odd() ? edge() : random.nextInt(3);
            int side = odd() ? edge() : random.nextInt(4) / 3;
            int ruling = odd() ? edge() : random.nextInt(rulings);
            check.due(at + "half", model.half(part, side, ruling), desk.half(part, side, ruling));
        } else if (kind < 50) {
            light(at);
        } else if (kind < 54) {
            check.due(at + "join", model.join(), desk.join());
        } else if (kind < 56) {
            int n = odd() ? edge() : random.nextInt(8);
            check.due(at + "price " + n, model.price(n), desk.price(n));
        } else {
            ask(at, kind);
        }
        return 1;
    }

    private void ask(String at, int kind) {
        int half = odd() ? edge() : random.nextInt(8);
        int other = odd() ? edge() : random.nextInt(8);
        int face = odd() ? edge() : random.nextInt(2);
        int spot = odd() ? edge() : random.nextInt(8);
        int what = odd() ? edge() : random.nextInt(9);
        if (kind < 60) {
            check.due(at + "list", model.list(half, face, spot), desk.list(half, face, spot));
        } else if (kind < 64) {
            int place = odd() ? edge() : random.nextInt(130);
            check.due(at + "quarrels", model.quarrels(half, face, place), desk.quarrels(half, face, place));
        } else if (kind < 72) {
            int best = odd() ? what : random.nextInt(3);
            check.due(at + "best " + half + " " + other + " " + best,
                model.best(half, other, best), desk.best(half, other, best));
        } else if (kind < 80) {
            int leaf = random.nextInt(4);
            check.due(at + "leaf " + leaf + " " + what, model.leaf(leaf, what), desk.leaf(leaf, what));
        } else if (kind < 86) {
            int k = random.nextInt(6);
            check.due(at + "book " + k, model.book(k, what % 4), desk.book(k, what % 4));
        } else if (kind < 92) {
            check.due(at + "led", model.led(half, face, spot), desk.led(half, face, spot));
        } else if (kind < 98) {
            check.due(at + "count " + what, model.count(what), desk.count(what));
        } else {
            check.due(at + "fault", model.fault(what % 3), desk.fault(what % 3));
        }
    }

    private void light(String at) {
        int half = odd() ? edge() : random.nextInt(8);
        int face = odd() ? edge() : random.nextInt(2);
        int spot = odd() ? edge() : random.nextInt(8);
        int letters = odd() ? edge() : likelyLetters(half, face, spot) | random.nextInt(65536) & random.nextInt(65536);
        check.due(at + "light", model.light(half, face, spot, letters), desk.light(half, face, spot, letters));
    }

    /** Most lights show what the text has where the HALF belongs, so that joins are no mere chance. */
    private int likelyLetters(int half, int face, int spot) {
        int at = half / 2 * 32 % Math.max(1, trueText.length() - 31) + face * 16 + half % 2 * 8 + spot;
        if (random.nextInt(100) < noise || at < 0 || at >= trueText.length()) {
            return 1 << random.nextInt(16);
        }
        return Check.bit(trueText.charAt(at));
    }

    private int newWork(String at, int left) {
        String bytes = randomBytes();
        int calls = 0;
        // one call is kept for work(): behind the 512th the document promises nothing
        for (int i = 0; i < bytes.length() && calls < left - 1; i += 20, calls++) {
            int a = Check.number(bytes, i);
            int b = Check.number(bytes, i + 4);
            int c = Check.number(bytes, i + 8);
            int d = Check.number(bytes, i + 12);
            int e = Check.number(bytes, i + 16);
            check.due(at + "feed", model.feed(a, b, c, d, e), desk.feed(a, b, c, d, e));
        }
        int n = odd() ? edge() : bytes.length();
        check.due(at + "work " + n, model.work(n), desk.work(n));
        trueText = model.text;
        return calls + 1;
    }

    private String randomBytes() {
        int letters = random.nextInt(10) == 0 ? random.nextInt(170) : 32 + random.nextInt(129);
        int kinds = 1 + random.nextInt(16);
        StringBuilder bytes = new StringBuilder();
        for (int i = 0; i < letters; i++) {
            bytes.append((char) ('a' + random.nextInt(kinds)));
            if (random.nextInt(8) == 0) {
                bytes.append(random.nextBoolean() ? ' ' : '\n');
            }
        }
        if (random.nextInt(8) == 0 && bytes.length() > 0) {
            bytes.setCharAt(random.nextInt(bytes.length()), (char) random.nextInt(256));
        }
        return bytes.toString();
    }

    private boolean odd() {
        return random.nextInt(40) == 0;
    }

    private int edge() {
        return EDGES[random.nextInt(EDGES.length)];
    }
}
