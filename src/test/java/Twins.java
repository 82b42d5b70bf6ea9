import java.util.function.Consumer;

/** Two desks that were handled alike; one then gets calls that must leave everything as it was. */
final class Twins {
    private static final int HALVES = 8;

    private Twins() {
    }

    static void stayAlike(Check check, String call, Consumer<UnderText> setUp, Consumer<UnderText> refused) {
        UnderText left = new UnderText();
        UnderText right = new UnderText();
        setUp.accept(left);
        setUp.accept(right);
        refused.accept(right);
        compareAnswers(check, call + " changed ", left, right);
        compareWhatIsHidden(check, call + " changed ", left, right);
    }

    /** All answers that a desk gives without being changed: 338 calls. */
    private static void compareAnswers(Check check, String text, UnderText left, UnderText right) {
        for (int what = 0; what < 8; what++) {
            check.due(text + "count(" + what + ")", left.count(what), right.count(what));
        }
        for (int what = 0; what < 2; what++) {
            check.due(text + "fault(" + what + ")", left.fault(what), right.fault(what));
        }
        for (int k = 0; k < HALVES; k++) {
            for (int what = 0; what < 6; what++) {
                check.due(text + "leaf(" + k + ", " + what + ")", left.leaf(k, what), right.leaf(k, what));
            }
            for (int what = 0; what < 3; what++) {
                check.due(text + "book(" + k + ", " + what + ")", left.book(k, what), right.book(k, what));
            }
            for (int i = 0; i < 16; i++) {
                String at = "(" + k + ", " + i / 8 + ", " + i % 8 + ")";
                check.due(text + "list" + at, left.list(k, i / 8, i % 8), right.list(k, i / 8, i % 8));
                check.due(text + "led" + at, left.led(k, i / 8, i % 8), right.led(k, i / 8, i % 8));
            }
        }
    }

    /** PRICE, RULINGS, SIDES and parts show when the desks are joined, the TAPE when it is read: some 60 calls. */
    private static void compareWhatIsHidden(Check check, String text, UnderText left, UnderText right) {
        check.due(text + "the next join()", left.join(), right.join());
        for (int k = 0; k < HALVES; k++) {
            check.due(text + "the next leaf(" + k + ", 1)", left.leaf(k, 1), right.leaf(k, 1));
        }
        int fed = sizeOfTape(left);
        check.due(text + "the TAPE's size", fed, sizeOfTape(right));
        check.due(text + "the next work(" + fed + ")", left.work(fed), right.work(fed));
        check.due(text + "the next fault(0)", left.fault(0), right.fault(0));
        check.due(text + "the next fault(1)", left.fault(1), right.fault(1));
        left.join();
        right.join();
        for (int i = 0; i < 16; i++) {
            String at = "the next led(0, " + i / 8 + ", " + i % 8 + ")";
            check.due(text + at, left.led(0, i / 8, i % 8), right.led(0, i / 8, i % 8));
        }
    }

    /** A full one refuses the blanks, and has 400 then. */
    private static int sizeOfTape(UnderText x) {
        int blanks = Check.number("", 0);
        int size = x.feed(blanks, blanks, blanks, blanks, blanks);
        return size == UnderText.NONE ? 400 : size;
    }

    static void empty(UnderText x) {
        x.count(0);
    }

    /** Two LEAVES of three HALVES as JOINED, a HALF and a LIGHT that came later, a FAULT, forty bytes of TAPE. */
    static void inUse(UnderText x) {
        Check.work(x, "abcdefghijklmnop".repeat(2) + "\n" + "ponmlkjihgfedcba".repeat(4));
        x.half(0, 0, 3);
        x.half(1, 0, 3);
        x.half(2, 1, 3);
        Check.see(x, 0, 0, "abc..f");
        Check.see(x, 1, 1, "......op");
        Check.see(x, 2, 0, "ppppp...");
        x.light(0, 0, 0, 2);
        x.price(2);
        x.join();
        x.half(1, 1, 3);
        x.light(0, 0, 3, 0x00ff);
        Check.work(x, "ab!");
        Check.feed(x, "mnop".repeat(9));
    }

    /** As full as can be: 160 LETTERS, eight HALVES, eight LEAVES, 400 bytes of TAPE. */
    static void full(UnderText x) {
        Check.work(x, "abcdefghijklmnop".repeat(5) + "ponmlkjihgfedcba".repeat(5));
        for (int h = 0; h < HALVES; h++) {
            x.half(h % 3, h / 4, 9);
            x.light(h, h % 2, h, 1 << h);
            x.light(h, h % 2, h, 0xf00f);
        }
        x.price(0);
        x.join();
        x.price(99);
        Check.feed(x, "b ".repeat(160) + " ".repeat(80));
    }
}
