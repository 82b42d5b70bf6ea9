/** Promises 13 to 15: book, led, count. */
public final class BookTest {
    private static final Check CHECK = new Check();
    private static final int LEAST = Integer.MIN_VALUE;
    private static final int MOST = Integer.MAX_VALUE;

    public static void main(String[] args) {
        leavesByTheirPlaces();
        likePlacesByNumbers();
        gapsAndClashes();
        facingSides();
        sidesMatterOnlyWithNothingBetween();
        lettersLed();
        wrongLed();
        wrongCounts();
        CHECK.end();
    }

    /** A WORK of a's in which the letters b, c, .. stand once each, at the given places. */
    private static UnderText deskWithMarks(int... places) {
        StringBuilder text = new StringBuilder("a".repeat(160));
        for (int i = 0; i < places.length; i++) {
            text.setCharAt(places[i], (char) ('b' + i));
        }
        UnderText x = new UnderText();
        Check.work(x, text.toString());
        return x;
    }

    /** An UPPER half that is at peace only where the mark is its first letter. */
    private static void halfAtMark(UnderText x, int side, int mark) {
        int half = x.half(0, side, x.count(1));
        x.light(half, 0, 0, 2 << mark);
    }

    private static void expectBook(UnderText x, int k, int number, int lost, int breaks) {
        CHECK.due("book(" + k + ", 0)", number, x.book(k, 0));
        CHECK.due("book(" + k + ", 1)", lost, x.book(k, 1));
        CHECK.due("book(" + k + ", 2)", breaks, x.book(k, 2));
    }

    private static void expectCounts(UnderText x, int leaves, int quarrels, int clashes, int breaks, int lost) {
        CHECK.due("count(3)", leaves, x.count(3));
        CHECK.due("count(4)", quarrels, x.count(4));
        CHECK.due("count(5)", clashes, x.count(5));
        CHECK.due("count(6)", breaks, x.count(6));
        CHECK.due("count(7)", lost, x.count(7));
    }

    private static void leavesByTheirPlaces() {
        UnderText x = deskWithMarks(128, 0, 64);
        halfAtMark(x, 0, 0);
        halfAtMark(x, 0, 1);
        halfAtMark(x, 0, 2);
        x.join();
        expectBook(x, 0, 1, 1, 0);
        expectBook(x, 1, 2, 1, 0);
        expectBook(x, 2, 0, -1, 0);
        CHECK.due("no fourth", -1, x.book(3, 0));
        expectCounts(x, 3, 0, 0, 0, 2);
    }

    private static void likePlacesByNumbers() {
        UnderText x = deskWithMarks(40, 3);
        halfAtMark(x, 0, 0);
        halfAtMark(x, 0, 1);
        halfAtMark(x, 0, 0);
        halfAtMark(x, 0, 1);
        halfAtMark(x, 0, 0);
        x.join();
        expectBook(x, 0, 1, -1, 0);
        expectBook(x, 1, 3, -1, 0);
        expectBook(x, 2, 0, -1, 0);
        expectBook(x, 3, 2, -1, 0);
        expectBook(x, 4, 4, -1, 0);
        expectCounts(x, 5, 0, 4, 0, 0);
    }

    private static void gapsAndClashes() {
        int[][] cases = {{32, 0}, {64, 1}, {96, 2}, {128, 3}, {31, -1}, {33, -1}, {63, -1}, {65, -1}, {1, -1}, {127, -1}};
        for (int[] c : cases) {
            UnderText x = deskWithMarks(0, c[0]);
            halfAtMark(x, 1, 0);
            halfAtMark(x, 0, 1);
            x.join();
            expectBook(x, 0, 0, c[1], 0);
            expectCounts(x, 2, 0, c[1] < 0 ? 1 : 0, 0, Math.max(0, c[1]));
        }
    }

    private static void facingSides() {
        for (int sides = 0; sides < 8; sides++) {
            UnderText x = deskWithMarks(5, 37, 69);
            int a = sides & 1;
            int b = sides >> 1 & 1;
            int c = sides >> 2;
            halfAtMark(x, c, 2);
            halfAtMark(x, b, 1);
            halfAtMark(x, a, 0);
            x.join();
            expectBook(x, 0, 2, 0, a == b ? 1 : 0);
            expectBook(x, 1, 1, 0, b == c ? 1 : 0);
            expectBook(x, 2, 0, -1, 0);
            expectCounts(x, 3, 0, 0, (a == b ? 1 : 0) + (b == c ? 1 : 0), 0);
        }
    }

    private static void sidesMatterOnlyWithNothingBetween() {
        UnderText x = deskWithMarks(0, 64, 70);
        halfAtMark(x, 1, 0);
        halfAtMark(x, 1, 1);
        halfAtMark(x, 1, 2);
        x.join();
        expectBook(x, 0, 0, 1, 0);
        expectBook(x, 1, 1, -1, 0);
        expectCounts(x, 3, 0, 1, 0, 1);
    }

    private static void lettersLed() {
        UnderText x = new UnderText();
        Check.work(x, "pabcdefghijklmnopabcdefghijklmnop");
        x.half(2, 0, 0);
        x.half(2, 0, 0);
        x.light(1, 0, 0, Check.bit('a'));
        x.light(1, 1, 7, Check.bit('h'));
        x.light(0, 0, 0, Check.bit('b'));
        x.light(0, 0, 1, ~Check.bit('j') & 65535);
        CHECK.due("led ahead of join", -1, x.led(0, 0, 0));
        CHECK.due("join", 5, x.join());
        CHECK.due("the greater half lies as upper", 1, x.leaf(0, 0));
        CHECK.due("place", 1, x.leaf(0, 2));
        for (int i = 2; i < 16; i++) {
            CHECK.due("lower " + i, 8 + i % 8, x.led(0, i / 8, i % 8));
            CHECK.due("upper " + i, i % 8, x.led(1, i / 8, i % 8));
        }
        CHECK.due("its list hasn't the letter", -1, x.led(0, 0, 0));
        CHECK.due("its list hasn't just this letter", -1, x.led(0, 0, 1));
        x.half(0, 0, 0);
        CHECK.due("a half that was not joined", -1, x.led(2, 0, 0));
    }

    private static void wrongLed() {
        UnderText x = new UnderText();
        Check.work(x, "b".repeat(32));
        x.half(0, 0, 0);
        x.join();
        CHECK.due("led(0, 1, 7)", 1, x.led(0, 1, 7));
        int[][] wrong = {{-1, 0, 0}, {1, 0, 0}, {0, -1, 0}, {0, 2, 0}, {0, 0, -1}, {0, 0, 8}, {8, 0, 0},
            {LEAST, 0, 0}, {MOST, 0, 0}, {0, LEAST, 0}, {0, MOST, 0}, {0, 0, LEAST}, {0, 0, MOST}};
        for (int[] w : wrong) {
            CHECK.due("led(" + w[0] + ", " + w[1] + ", " + w[2] + ")", -1, x.led(w[0], w[1], w[2]));
        }
    }

    private static void wrongCounts() {
        UnderText x = deskWithMarks(3);
        halfAtMark(x, 0, 0);
        x.light(0, 0, 0, 1);
        x.light(0, 0, 7, 2);
        x.join();
        CHECK.due("count(0)", 160, x.count(0));
        CHECK.due("count(1)", 1, x.count(1));
        CHECK.due("count(2)", 1, x.count(2));
        expectCounts(x, 1, 1, 0, 0, 0);
        for (int what : new int[] {-1, 8, LEAST, MOST}) {
            CHECK.due("count(" + what + ")", -1, x.count(what));
        }
    }
}
