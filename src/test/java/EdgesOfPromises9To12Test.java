/** The boundary cases of promises 9 to 12 (best, price, join, leaf), a test for each sentence. */
public final class EdgesOfPromises9To12Test {
    private static final Check CHECK = new Check();
    private static final int NONE = UnderText.NONE;
    private static final int LEAST = Integer.MIN_VALUE;
    private static final int MOST = Integer.MAX_VALUE;
    private static final int[] NUMBERS = {LEAST, -2, -1, 0, 1, 2, 3, 4, 5, 6, 7, 8, 9, MOST};

    public static void main(String[] args) {
        promise9NoSuchHalves();
        promise9TheyCanBeNoLeaf();
        promise9TheWorkHasLessThan32();
        promise9NoSuchWhat();
        promise9TheHalfThatIsUpper();
        promise9FromNoneTo32();
        promise9TheFirstAndTheLastPlace();
        promise9OfSeveralWays();
        promise9ChangesNothing();
        promise10From0To99();
        promise10RefusedLeavesAllAsItWas();
        promise10IsForEachLeaf();
        promise11NoHalves();
        promise11TheWorkHasLessThan32();
        promise11RefusedNothingHappens();
        promise11From1To8Halves();
        promise11OfSeveralTheFirst();
        promise11LikeSumsOfPriceAndQuarrels();
        promise11LeavesByTheirLeastHalves();
        promise11StaysTillItIsJoinedAnew();
        promise12NoneSuch();
        promise12FewerLeavesThanBefore();
        promise12NoUpperOrNoLower();
        promise12Chance();
        promise12ChanceForTheWayThatItLies();
        promise12OfHowMany();
        CHECK.end();
    }

    private static boolean isWithin(int n, int most) {
        return n >= 0 && n <= most;
    }

    private static UnderText deskOf(String text) {
        UnderText x = new UnderText();
        Check.work(x, text);
        return x;
    }

    private static void expectBest(UnderText x, int a, int b, int... due) {
        for (int what = 0; what < due.length; what++) {
            CHECK.due("best(" + a + ", " + b + ", " + what + ")", due[what], x.best(a, b, what));
            CHECK.due("best(" + b + ", " + a + ", " + what + ")", due[what], x.best(b, a, what));
        }
    }

    private static void expectLeaf(UnderText x, int k, int... due) {
        for (int what = 0; what < due.length; what++) {
            CHECK.due("leaf(" + k + ", " + what + ")", due[what], x.leaf(k, what));
        }
    }

    private static void promise9NoSuchHalves() {
        CHECK.about("promise 9: NONE: no such ones");
        for (int halves = 0; halves <= 8; halves += 2) {
            UnderText x = deskOf("a".repeat(32));
            for (int h = 0; h < halves; h++) {
                x.half(2, 0, 0);
            }
            for (int a : NUMBERS) {
                for (int b : NUMBERS) {
                    boolean are = isWithin(a, halves - 1) && isWithin(b, halves - 1);
                    CHECK.due(halves + " HALVES, best(" + a + ", " + b + ", 0)", are ? 0 : NONE, x.best(a, b, 0));
                }
            }
        }
    }

    private static void promise9TheyCanBeNoLeaf() {
        CHECK.about("promise 9: two with like RULINGS and like SIDES, the one as UPPER, the other as LOWER");
        for (int parts = 0; parts < 9; parts++) {
            for (int sides = 0; sides < 4; sides++) {
                for (int rulings = 0; rulings < 4; rulings++) {
                    UnderText x = deskOf("a".repeat(32));
                    x.half(parts % 3, sides % 2, rulings % 2 * 9);
                    x.half(parts / 3, sides / 2, rulings / 2 * 9);
                    boolean likeParts = parts % 3 == parts / 3 && parts % 3 != 2;
                    boolean canBe = !likeParts && sides % 2 == sides / 2 && rulings % 2 == rulings / 2;
                    String call = "parts " + parts + " sides " + sides + " rulings " + rulings;
                    for (int what = 0; what < 2; what++) {
                        CHECK.due(call, canBe ? 0 : NONE, x.best(0, 1, what));
                        CHECK.due(call, canBe ? 0 : NONE, x.best(1, 0, what));
                    }
                    CHECK.due(call + " alone", 0, x.best(0, 0, 0));
                    x.join();
                    CHECK.due(call + " as JOINED", canBe ? 1 : 2, x.count(3));
                }
            }
        }
        UnderText x = deskOf("a".repeat(32));
        x.half(0, 0, 8);
        x.half(1, 0, 9);
        CHECK.due("RULINGS that differ by one", NONE, x.best(0, 1, 0));
    }

    private static void promise9TheWorkHasLessThan32() {
        CHECK.about("promise 9: NONE: the WORK has less than 32");
        for (int letters : new int[] {0, 1, 31, 32, 33, 160}) {
            UnderText x = deskOf("a".repeat(letters));
            x.half(0, 0, 0);
            x.half(1, 0, 0);
            int due = letters < 32 ? NONE : 0;
            expectBest(x, 0, 1, due, due, due);
            expectBest(x, 0, 0, due, due, due);
            expectBest(x, 1, 1, due, due, NONE);
        }
    }

    private static void promise9NoSuchWhat() {
        CHECK.about("promise 9: NONE: no such what");
        UnderText x = deskOf("a".repeat(32));
        x.half(0, 0, 0);
        x.half(1, 0, 0);
        for (int what : NUMBERS) {
            CHECK.due("best(0, 1, " + what + ")", isWithin(what, 2) ? 0 : NONE, x.best(0, 1, what));
            CHECK.due("best(0, 0, " + what + ")", isWithin(what, 2) ? 0 : NONE, x.best(0, 0, what));
        }
    }

    private static void promise9TheHalfThatIsUpper() {
        CHECK.about("promise 9: the HALF that is UPPER (NONE: there is none)");
        UnderText x = deskOf("a".repeat(32));
        for (int part = 0; part < 3; part++) {
            x.half(part, 0, part);
        }
        expectBest(x, 0, 0, 0, 0, 0);
        expectBest(x, 1, 1, 0, 0, NONE);
        expectBest(x, 2, 2, 0, 0, 2);
        x.half(1, 0, 0);
        x.half(0, 0, 1);
        expectBest(x, 0, 3, 0, 0, 0);
        expectBest(x, 1, 4, 0, 0, 4);
    }

    private static void promise9FromNoneTo32() {
        CHECK.about("promise 9: QUARRELS: of all its SPOTS");
        UnderText x = deskOf("p".repeat(160));
        x.half(0, 0, 0);
        x.half(1, 0, 0);
        for (int i = 0; i < 32; i++) {
            expectBest(x, 0, 1, i, 0, 0);
            x.light(i % 2, i / 16, i / 2 % 8, 0x7fff);
        }
        expectBest(x, 0, 1, 32, 0, 0);
        expectBest(x, 0, 0, 16, 0, 0);
        expectBest(x, 1, 1, 16, 0, NONE);
    }

    private static void promise9TheFirstAndTheLastPlace() {
        CHECK.about("promise 9: its PLACE (0 up to the WORK's LETTERS less 32); of several the least PLACE");
        for (int at : new int[] {0, 1, 127, 128}) {
            UnderText x = deskOf("a".repeat(at) + "b" + "a".repeat(159 - at));
            x.half(0, 0, 0);
            x.light(0, 0, 0, Check.bit('b'));
            expectBest(x, 0, 0, 0, at, 0);
        }
        UnderText x = deskOf("a".repeat(129) + "b" + "a".repeat(30));
        x.half(0, 0, 0);
        x.light(0, 0, 0, Check.bit('b'));
        expectBest(x, 0, 0, 1, 0, 0);
        x = deskOf("a".repeat(159) + "b");
        x.half(1, 0, 0);
        x.light(0, 1, 7, Check.bit('b'));
        expectBest(x, 0, 0, 0, 128, NONE);
        x = deskOf("a" + "b".repeat(158) + "b");
        x.half(1, 0, 0);
        x.light(0, 1, 7, Check.bit('b'));
        expectBest(x, 0, 0, 0, 0, NONE);
    }

    /** One letter b at place 8: HALF 0 finds it as LOWER at 0 and as UPPER at 8. */
    private static void promise9OfSeveralWays() {
        CHECK.about("promise 9: of several ways the one with the HALF of the lesser number as UPPER");
        UnderText x = deskOf("a".repeat(8) + "b" + "a".repeat(31));
        x.half(2, 0, 0);
        x.half(2, 0, 0);
        x.light(0, 0, 0, Check.bit('b'));
        expectBest(x, 0, 0, 0, 8, 0);
        expectBest(x, 0, 1, 0, 8, 0);
        x = deskOf("a".repeat(8) + "b" + "a".repeat(30));
        x.half(2, 0, 0);
        x.half(2, 0, 0);
        x.light(0, 0, 0, Check.bit('b'));
        // one LETTER less, and the place 8 is no more: only as LOWER it is at peace
        expectBest(x, 0, 0, 0, 0, NONE);
        expectBest(x, 0, 1, 0, 0, 1);
    }

    private static void promise9ChangesNothing() {
        CHECK.about("promise 8, 9: a question changes nothing");
        Twins.stayAlike(CHECK, "best, quarrels", Twins::inUse, x -> {
            x.best(0, 3, 0);
            x.best(2, 3, 1);
            x.best(3, 3, 2);
            x.best(4, 0, 0);
            x.quarrels(3, 0, 9);
            x.quarrels(0, 1, 0);
        });
    }

    private static void promise10From0To99() {
        CHECK.about("promise 10: a PRICE (0 .. 99); false, and it stays: it can't be");
        UnderText x = deskOf("a".repeat(32));
        x.half(0, 0, 0);
        int price = 3;
        for (int n : new int[] {-1, 100, 0, -1, 100, 99, 100, -1, 98, LEAST, MOST, 1, -2, 101}) {
            boolean canBe = isWithin(n, 99);
            price = canBe ? n : price;
            CHECK.due("price(" + n + ")", canBe, x.price(n));
            CHECK.due("join() behind price(" + n + ")", price, x.join());
        }
    }

    private static void promise10RefusedLeavesAllAsItWas() {
        CHECK.about("promise 10: false, and it stays");
        for (int n : new int[] {-1, 100, LEAST, MOST}) {
            Twins.stayAlike(CHECK, "price(" + n + ")", Twins::full, x -> x.price(n));
            Twins.stayAlike(CHECK, "price(" + n + ")", Twins::inUse, x -> x.price(n));
            Twins.stayAlike(CHECK, "price(" + n + ")", Twins::empty, x -> x.price(n));
        }
    }

    private static void promise10IsForEachLeaf() {
        CHECK.about("promise 10: a PRICE for each LEAF");
        UnderText x = deskOf("p".repeat(32));
        for (int h = 0; h < 8; h++) {
            x.half(0, 0, h);
            Check.see(x, h, 0, "aaaaaaaa");
            Check.see(x, h, 1, "aaaaaaaa");
        }
        x.price(99);
        CHECK.due("the most that can be", 8 * 16 + 8 * 99, x.join());
        x.price(0);
        CHECK.due("all QUARRELS for nothing", 8 * 16, x.join());
        CHECK.due("count(4) is without PRICES", 8 * 16, x.count(4));
    }

    private static void promise11NoHalves() {
        CHECK.about("promise 11: NONE: no HALVES");
        UnderText x = deskOf("a".repeat(160));
        CHECK.due("join()", NONE, x.join());
        CHECK.due("count(3)", 0, x.count(3));
        x.half(3, 0, 0);
        CHECK.due("join() behind a HALF that can't be", NONE, x.join());
        x.half(1, 1, 9);
        CHECK.due("join() with one", 3, x.join());
    }

    private static void promise11TheWorkHasLessThan32() {
        CHECK.about("promise 11: NONE: the WORK has less than 32");
        for (int letters : new int[] {0, 1, 31, 32, 33}) {
            UnderText x = deskOf("a".repeat(letters));
            x.half(0, 0, 0);
            CHECK.due(letters + " LETTERS, join()", letters < 32 ? NONE : 3, x.join());
            CHECK.due(letters + " LETTERS, count(3)", letters < 32 ? 0 : 1, x.count(3));
        }
        UnderText x = deskOf("a".repeat(32));
        x.half(0, 0, 0);
        CHECK.due("32 LETTERS", 3, x.join());
        Check.work(x, "a".repeat(31));
        CHECK.due("31 LETTERS where there were 32", NONE, x.join());
        CHECK.due("count(3)", 0, x.count(3));
    }

    private static void promise11RefusedNothingHappens() {
        CHECK.about("promise 11: NONE, and nothing happens");
        Twins.stayAlike(CHECK, "join() when empty", Twins::empty, UnderText::join);
        Twins.stayAlike(CHECK, "join() without HALVES", x -> Check.work(x, "a".repeat(64)), UnderText::join);
        Twins.stayAlike(CHECK, "join() with 31 LETTERS", x -> {
            Twins.full(x);
            x.work(0);
            Check.work(x, "a".repeat(31));
        }, UnderText::join);
    }

    private static void promise11From1To8Halves() {
        CHECK.about("promise 11: all HALVES to LEAVES, each in one");
        UnderText x = deskOf("a".repeat(32));
        for (int h = 1; h <= 8; h++) {
            x.half(2, 0, 0);
            int leaves = (h + 1) / 2;
            CHECK.due(h + " HALVES, join()", 3 * leaves, x.join());
            CHECK.due(h + " HALVES, count(3)", leaves, x.count(3));
            boolean[] seen = new boolean[8];
            for (int k = 0; k < leaves; k++) {
                for (int what = 0; what < 2; what++) {
                    int half = x.leaf(k, what);
                    CHECK.due("HALF " + half + " is in one alone", false, half >= 0 && seen[half]);
                    if (half >= 0) {
                        seen[half] = true;
                    }
                }
            }
            for (int half = 0; half < h; half++) {
                CHECK.due("HALF " + half + " is in one", true, seen[half]);
            }
        }
    }

    private static void promise11OfSeveralTheFirst() {
        CHECK.about("promise 11: for HALF 0, 1, .. in turn the number of the HALF with which it is, the lesser one");
        UnderText x = deskOf("a".repeat(32));
        for (int h = 0; h < 7; h++) {
            x.half(2, 0, 0);
        }
        x.join();
        // its own number is the lesser one: of seven the first is alone
        expectLeaf(x, 0, 0, NONE);
        expectLeaf(x, 1, 1, 2);
        expectLeaf(x, 2, 3, 4);
        expectLeaf(x, 3, 5, 6);
        x.half(2, 0, 0);
        x.join();
        for (int k = 0; k < 4; k++) {
            expectLeaf(x, k, 2 * k, 2 * k + 1);
        }
        x = deskOf("a".repeat(32));
        x.half(0, 0, 0);
        x.half(0, 0, 0);
        x.half(1, 0, 0);
        x.half(1, 0, 0);
        x.join();
        expectLeaf(x, 0, 0, 2);
        expectLeaf(x, 1, 1, 3);
    }

    /** HALF 0 and HALF 1 together quarrel as often as the PRICE, alone not at all. */
    private static void promise11LikeSumsOfPriceAndQuarrels() {
        CHECK.about("promise 11: the QUARRELS of all and a PRICE for each LEAF are least together");
        for (int price = 0; price <= 16; price++) {
            UnderText x = deskOf("a".repeat(80) + "b".repeat(80));
            x.half(0, 0, 0);
            x.half(1, 0, 0);
            Check.see(x, 0, 0, "aaaaaaaa");
            Check.see(x, 0, 1, "aaaaaaaa");
            Check.see(x, 1, 0, "bbbbbbb");
            x.price(price);
            // together they quarrel 7 times at least: alone at like sums, since its own number is the lesser one
            boolean together = price > 7;
            CHECK.due("price " + price + ", join()", together ? 7 + price : 2 * price, x.join());
            CHECK.due("price " + price + ", count(3)", together ? 1 : 2, x.count(3));
            CHECK.due("price " + price + ", count(4)", together ? 7 : 0, x.count(4));
        }
    }

    private static void promise11LeavesByTheirLeastHalves() {
        CHECK.about("promise 11: LEAVES are numbered from 0 on by their least HALVES");
        UnderText x = deskOf("a".repeat(32));
        int[][] halves = {{1, 0, 0}, {1, 0, 1}, {0, 1, 0}, {0, 0, 1}, {0, 0, 0}};
        for (int[] h : halves) {
            x.half(h[0], h[1], h[2]);
        }
        x.join();
        expectLeaf(x, 0, 4, 0);
        expectLeaf(x, 1, 3, 1);
        expectLeaf(x, 2, 2, NONE);
        CHECK.due("no fourth", NONE, x.leaf(3, 0));
    }

    private static void promise11StaysTillItIsJoinedAnew() {
        CHECK.about("promise 11: What was joined stays (its LISTS too) as it was then, till it is joined anew");
        UnderText x = deskOf("a".repeat(32) + "b".repeat(32));
        x.half(2, 0, 0);
        x.light(0, 0, 0, 3);
        x.join();
        x.half(2, 0, 0);
        x.light(0, 0, 0, 2);
        x.light(0, 1, 7, 2);
        x.light(0, 1, 7, 1);
        x.price(99);
        x.feed(0, 0, 0, 0, 0);
        x.work(20);
        expectLeaf(x, 0, 0, NONE, 0, 0, 33, 33);
        CHECK.due("count(3)", 1, x.count(3));
        CHECK.due("count(4)", 0, x.count(4));
        CHECK.due("led(0, 0, 0)", 0, x.led(0, 0, 0));
        CHECK.due("led(0, 1, 7)", 0, x.led(0, 1, 7));
        CHECK.due("led(1, 0, 0)", NONE, x.led(1, 0, 0));
        CHECK.due("anew", 99, x.join());
        expectLeaf(x, 0, 0, 1, 32, 0, 1, 33);
        CHECK.due("led(0, 1, 7)", 1, x.led(0, 1, 7));
        CHECK.due("led(1, 0, 0)", 1, x.led(1, 0, 0));
    }

    private static void promise12NoneSuch() {
        CHECK.about("promise 12: NONE if there is none such");
        for (int leaves = 0; leaves <= 8; leaves += 2) {
            UnderText x = deskOf("a".repeat(32));
            for (int h = 0; h < leaves; h++) {
                x.half(0, 0, h);
            }
            expectLeaf(x, 0, NONE, NONE, NONE, NONE, NONE, NONE);
            x.join();
            for (int k : NUMBERS) {
                for (int what : NUMBERS) {
                    boolean is = isWithin(k, leaves - 1) && isWithin(what, 5);
                    int[] due = {k, NONE, 0, 0, 1, 1};
                    CHECK.due(leaves + " LEAVES, leaf(" + k + ", " + what + ")", is ? due[what] : NONE, x.leaf(k, what));
                }
            }
        }
    }

    private static void promise12FewerLeavesThanBefore() {
        CHECK.about("promise 12, 13: of what was JOINED last alone");
        UnderText x = deskOf("a".repeat(32));
        x.half(0, 0, 0);
        x.half(1, 0, 0);
        x.price(0);
        x.join();
        CHECK.due("two LEAVES for nothing", 1, x.leaf(1, 1));
        x.price(1);
        x.join();
        CHECK.due("one LEAF at 1", 1, x.leaf(0, 1));
        for (int what = 0; what < 6; what++) {
            CHECK.due("leaf(1, " + what + ")", NONE, x.leaf(1, what));
            CHECK.due("book(1, " + what + ")", NONE, x.book(1, what));
        }
        CHECK.due("count(3)", 1, x.count(3));
        CHECK.due("count(5)", 0, x.count(5));
        CHECK.due("the LOWER one is in LEAF 0", 0, x.led(1, 1, 7));
    }

    private static void promise12NoUpperOrNoLower() {
        CHECK.about("promise 12: 0: the HALF that is UPPER, 1: LOWER (NONE: there is none)");
        UnderText x = deskOf("a".repeat(32));
        x.half(0, 0, 0);
        x.half(1, 0, 1);
        x.half(2, 0, 2);
        x.half(1, 0, 3);
        x.half(0, 0, 3);
        x.join();
        expectLeaf(x, 0, 0, NONE);
        expectLeaf(x, 1, NONE, 1);
        expectLeaf(x, 2, 2, NONE);
        expectLeaf(x, 3, 4, 3);
    }

    private static void promise12Chance() {
        CHECK.about("promise 12: at how many PLACES it QUARRELS no more than at its BEST");
        UnderText x = deskOf("a".repeat(159) + "b");
        x.half(1, 0, 0);
        x.half(0, 0, 1);
        x.half(0, 0, 2);
        x.light(0, 1, 7, Check.bit('b'));
        x.light(1, 0, 0, Check.bit('c'));
        x.light(1, 0, 1, Check.bit('a'));
        x.join();
        expectLeaf(x, 0, NONE, 0, 128, 0, 1, 129);
        expectLeaf(x, 1, 1, NONE, 0, 1, 129, 129);
        expectLeaf(x, 2, 2, NONE, 0, 0, 129, 129);
    }

    /** The letters b at 8 .. 16: as UPPER the HALF is at peace at PLACE 8 alone, as LOWER at all nine. */
    private static void promise12ChanceForTheWayThatItLies() {
        CHECK.about("promise 12: CHANCE (for the way that it lies)");
        UnderText x = deskOf("a".repeat(8) + "b".repeat(9) + "a".repeat(23));
        x.half(2, 0, 0);
        x.light(0, 0, 0, Check.bit('b'));
        x.join();
        expectLeaf(x, 0, 0, NONE, 8, 0, 1, 9);
        x.half(2, 0, 0);
        x.join();
        expectLeaf(x, 0, 0, 1, 8, 0, 1, 9);
    }

    private static void promise12OfHowMany() {
        CHECK.about("promise 12: 5: of how many");
        for (int letters : new int[] {32, 33, 159, 160}) {
            UnderText x = deskOf("a".repeat(letters));
            x.half(0, 0, 0);
            x.join();
            CHECK.due(letters + " LETTERS, leaf(0, 4)", letters - 31, x.leaf(0, 4));
            CHECK.due(letters + " LETTERS, leaf(0, 5)", letters - 31, x.leaf(0, 5));
        }
    }
}
