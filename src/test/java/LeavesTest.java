/** Promises 9 to 12: best, price, join, leaf. */
public final class LeavesTest {
    private static final Check CHECK = new Check();
    private static final int LEAST = Integer.MIN_VALUE;
    private static final int MOST = Integer.MAX_VALUE;
    private static final String ABCD = "aaaaaaaabbbbbbbbccccccccdddddddd";

    public static void main(String[] args) {
        bestOfOneHalf();
        bestOfTwoHalves();
        bestPrefersTheWayToThePlace();
        bestPrefersFewerQuarrelsToTheWay();
        halvesThatCanBeNoLeaf();
        wrongBest();
        prices();
        joinWeighsQuarrelsAgainstPrices();
        joinTakesTheFirstOfSeveral();
        joinRefused();
        whatWasJoinedStays();
        leavesTellChance();
        chanceIsOfTheWayThatItLies();
        wrongLeaves();
        CHECK.end();
    }

    private static void expectBest(UnderText x, int a, int b, int quarrels, int place, int upper) {
        for (int turn = 0; turn < 2; turn++) {
            int first = turn == 0 ? a : b;
            int second = turn == 0 ? b : a;
            String call = "best(" + first + ", " + second + ", ";
            CHECK.due(call + "0)", quarrels, x.best(first, second, 0));
            CHECK.due(call + "1)", place, x.best(first, second, 1));
            CHECK.due(call + "2)", upper, x.best(first, second, 2));
        }
    }

    private static void expectLeaf(UnderText x, int k, int... due) {
        for (int what = 0; what < due.length; what++) {
            CHECK.due("leaf(" + k + ", " + what + ")", due[what], x.leaf(k, what));
        }
    }

    private static void bestOfOneHalf() {
        UnderText x = new UnderText();
        Check.work(x, "pp" + ABCD + "pp");
        for (int part = 0; part < 3; part++) {
            x.half(part, 0, part);
        }
        Check.see(x, 0, 0, "aaaaaaaa");
        Check.see(x, 1, 0, "bbbbbbbb");
        Check.see(x, 2, 0, "bbbbbbbb");
        expectBest(x, 0, 0, 0, 2, 0);
        expectBest(x, 1, 1, 0, 2, -1);
        expectBest(x, 2, 2, 0, 2, -1);
        Check.see(x, 2, 1, "dddddddo");
        expectBest(x, 2, 2, 1, 2, -1);
    }

    private static void bestOfTwoHalves() {
        UnderText x = new UnderText();
        Check.work(x, "ppp" + ABCD + "p");
        x.half(2, 1, 4);
        x.half(2, 1, 4);
        Check.see(x, 0, 0, "bbbbbbbb");
        Check.see(x, 1, 1, "cccccccc");
        expectBest(x, 0, 1, 0, 3, 1);
        Check.see(x, 0, 1, "dddddeee");
        expectBest(x, 0, 1, 3, 3, 1);
    }

    private static void bestPrefersTheWayToThePlace() {
        UnderText x = new UnderText();
        Check.work(x, "a".repeat(8) + "b".repeat(8) + "a".repeat(24));
        x.half(2, 0, 0);
        x.half(2, 0, 0);
        x.light(0, 0, 0, Check.bit('b'));
        // as LOWER it is at peace from PLACE 0 on, as UPPER from PLACE 8 on
        expectBest(x, 0, 0, 0, 8, 0);
        expectBest(x, 0, 1, 0, 8, 0);
        x.half(2, 0, 1);
        x.half(2, 0, 1);
        x.light(3, 0, 0, Check.bit('b'));
        // of both ways the lesser HALF is UPPER, though it was the greater one of which more is known
        expectBest(x, 2, 3, 0, 0, 2);
        x.half(0, 0, 2);
        x.half(1, 0, 2);
        expectBest(x, 4, 5, 0, 0, 4);
        x.half(0, 0, 1);
        expectBest(x, 3, 6, 0, 0, 6);
    }

    private static void bestPrefersFewerQuarrelsToTheWay() {
        UnderText x = new UnderText();
        Check.work(x, ABCD);
        x.half(2, 0, 0);
        x.half(2, 0, 0);
        x.light(0, 0, 0, Check.bit('a'));
        x.light(0, 0, 1, Check.bit('b'));
        x.light(0, 0, 2, Check.bit('b'));
        expectBest(x, 0, 0, 1, 0, -1);
        expectBest(x, 0, 1, 1, 0, 1);
    }

    private static void halvesThatCanBeNoLeaf() {
        boolean[][] fits = {{false, true, true}, {true, false, true}, {true, true, true}};
        for (int a = 0; a < 3; a++) {
            for (int b = 0; b < 3; b++) {
                UnderText x = new UnderText();
                Check.work(x, "a".repeat(40));
                x.half(a, 0, 0);
                x.half(b, 0, 0);
                x.half(b, 1, 0);
                x.half(b, 0, 1);
                CHECK.due("parts " + a + ", " + b, fits[a][b] ? 0 : -1, x.best(0, 1, 0));
                CHECK.due("other sides", -1, x.best(0, 2, 0));
                CHECK.due("other rulings", -1, x.best(0, 3, 0));
            }
        }
    }

    private static void wrongBest() {
        UnderText x = new UnderText();
        x.half(0, 0, 0);
        x.half(1, 0, 0);
        CHECK.due("no work", -1, x.best(0, 1, 0));
        Check.work(x, "a".repeat(31));
        CHECK.due("31 letters", -1, x.best(0, 1, 0));
        CHECK.due("31 letters, one half", -1, x.best(0, 0, 2));
        Check.work(x, "a".repeat(32));
        CHECK.due("32 letters", 0, x.best(0, 1, 0));
        int[][] wrong = {{0, 1, 3}, {0, 1, -1}, {0, 2, 0}, {2, 0, 0}, {-1, 0, 0}, {0, -1, 0}, {2, 2, 0}, {-1, -1, 0},
            {0, 1, MOST}, {0, 1, LEAST}, {MOST, 0, 0}, {0, LEAST, 0}, {MOST, MOST, 0}, {LEAST, LEAST, 0}};
        for (int[] w : wrong) {
            CHECK.due("best(" + w[0] + ", " + w[1] + ", " + w[2] + ")", -1, x.best(w[0], w[1], w[2]));
        }
    }

    private static void prices() {
        UnderText x = new UnderText();
        Check.work(x, "a".repeat(32));
        x.half(0, 0, 0);
        CHECK.due("3 at first", 3, x.join());
        CHECK.due("price(99)", true, x.price(99));
        CHECK.due("join() at 99", 99, x.join());
        CHECK.due("price(100)", false, x.price(100));
        CHECK.due("price(-1)", false, x.price(-1));
        CHECK.due("price(most)", false, x.price(MOST));
        CHECK.due("price(least)", false, x.price(LEAST));
        CHECK.due("it stays", 99, x.join());
        CHECK.due("price(0)", true, x.price(0));
        CHECK.due("join() at 0", 0, x.join());
    }

    /** Put together, the two quarrel thrice more than alone: at 3 alone and together cost the same. */
    private static void joinWeighsQuarrelsAgainstPrices() {
        UnderText x = new UnderText();
        Check.work(x, ABCD + ABCD);
        x.half(0, 0, 0);
        x.half(1, 0, 0);
        Check.see(x, 0, 0, "aaaaaaaa");
        Check.see(x, 1, 0, "bbbbbppp");
        Check.see(x, 1, 1, "dddddddd");
        CHECK.due("alone", 3, x.best(1, 1, 0));
        x.light(0, 1, 7, Check.bit('p'));
        x.light(0, 1, 6, Check.bit('p'));
        x.light(0, 1, 5, Check.bit('p'));
        CHECK.due("join() at 3", 9, x.join());
        CHECK.due("count(3) at 3", 1, x.count(3));
        CHECK.due("count(4) at 3", 6, x.count(4));
        x.price(0);
        CHECK.due("join() at 0", 6, x.join());
        CHECK.due("of like sums the lesser numbers: alone", 2, x.count(3));
    }

    private static void joinTakesTheFirstOfSeveral() {
        UnderText x = new UnderText();
        Check.work(x, "a".repeat(100));
        x.half(2, 0, 0);
        x.half(2, 0, 0);
        x.half(2, 0, 0);
        CHECK.due("two leaves of three halves", 6, x.join());
        expectLeaf(x, 0, 0, -1, 0, 0, 69, 69);
        expectLeaf(x, 1, 1, 2, 0, 0, 69, 69);
        x.half(2, 0, 0);
        CHECK.due("two leaves of four halves", 6, x.join());
        expectLeaf(x, 0, 0, 1, 0, 0);
        expectLeaf(x, 1, 2, 3, 0, 0);
        x.half(0, 0, 1);
        x.half(0, 0, 1);
        x.half(1, 0, 1);
        x.half(1, 0, 1);
        CHECK.due("four leaves of eight halves", 12, x.join());
        expectLeaf(x, 2, 4, 6, 0, 0);
        expectLeaf(x, 3, 5, 7, 0, 0);
        CHECK.due("count(3)", 4, x.count(3));
        x.price(0);
        CHECK.due("all alone for nothing", 0, x.join());
        CHECK.due("count(3) at 0", 8, x.count(3));
        expectLeaf(x, 6, -1, 6);
    }

    private static void joinRefused() {
        UnderText x = new UnderText();
        Check.work(x, "a".repeat(160));
        CHECK.due("no halves", -1, x.join());
        x.half(0, 0, 0);
        x.work(0);
        CHECK.due("no work", -1, x.join());
        Check.work(x, "a".repeat(31));
        CHECK.due("31 letters", -1, x.join());
        CHECK.due("nothing happens", 0, x.count(3));
        Check.work(x, "a".repeat(32));
        CHECK.due("32 letters", 3, x.join());
        CHECK.due("one place", 1, x.leaf(0, 5));
    }

    private static void whatWasJoinedStays() {
        UnderText x = new UnderText();
        Check.work(x, "a".repeat(32) + "b".repeat(32));
        x.half(0, 0, 0);
        x.light(0, 0, 0, 3);
        x.join();
        x.half(1, 0, 0);
        x.light(0, 0, 0, 2);
        x.price(50);
        expectLeaf(x, 0, 0, -1, 0, 0, 33, 33);
        CHECK.due("count(3)", 1, x.count(3));
        CHECK.due("the letter by the list of then", 0, x.led(0, 0, 0));
        CHECK.due("joined anew", 50, x.join());
        expectLeaf(x, 0, 0, 1, 32, 0, 1, 33);
        CHECK.due("the letter by the list of now", 1, x.led(0, 0, 0));
    }

    private static void leavesTellChance() {
        UnderText x = new UnderText();
        Check.work(x, "a".repeat(40) + "b".repeat(40));
        x.half(1, 0, 0);
        x.light(0, 0, 0, 2);
        x.light(0, 1, 0, 1);
        x.join();
        // its lines begin 8 and 24 on: b then a is nowhere, so one quarrel is all over but from 16 to 31
        expectLeaf(x, 0, -1, 0, 0, 1, 33, 49);
    }

    private static void chanceIsOfTheWayThatItLies() {
        UnderText x = new UnderText();
        Check.work(x, "b" + "a".repeat(7) + "b" + "a".repeat(31));
        x.half(2, 0, 0);
        x.light(0, 0, 0, 2);
        x.join();
        // as UPPER at 0 and 8; the way as LOWER, at 0, is another
        expectLeaf(x, 0, 0, -1, 0, 0, 2, 9);
    }

    private static void wrongLeaves() {
        UnderText x = new UnderText();
        Check.work(x, "a".repeat(32));
        x.half(0, 0, 0);
        x.join();
        int[][] wrong = {{1, 0}, {-1, 0}, {0, 6}, {0, -1}, {MOST, 0}, {LEAST, 0}, {0, MOST}, {0, LEAST}, {8, 2}};
        for (int[] w : wrong) {
            CHECK.due("leaf(" + w[0] + ", " + w[1] + ")", -1, x.leaf(w[0], w[1]));
            CHECK.due("book(" + w[0] + ", " + w[1] + ")", -1, x.book(w[0], w[1]));
        }
        CHECK.due("book(0, 3)", -1, x.book(0, 3));
    }
}
