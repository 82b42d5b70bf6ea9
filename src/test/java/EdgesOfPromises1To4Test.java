/** The boundary cases of promises 1 to 4 (a new object, feed, work, fault), a test for each sentence. */
public final class EdgesOfPromises1To4Test {
    private static final Check CHECK = new Check();
    private static final int NONE = UnderText.NONE;
    private static final int LEAST = Integer.MIN_VALUE;
    private static final int MOST = Integer.MAX_VALUE;
    private static final String LETTERS_160 = "abcdefghijklmnop".repeat(10);

    public static void main(String[] args) {
        promise1NoWorkNoHalvesNothingJoined();
        promise1AnEmptyTape();
        promise1ThePriceIs3();
        promise1ObjectsShareNothing();
        promise2HowManyItHas();
        promise2NoneComeBeyond400();
        promise2RefusedLeavesAllAsItWas();
        promise2TheHighestByteFirst();
        promise3LettersAreAToP();
        promise3From0To160Letters();
        promise3TheFirstFaultAlongTheText();
        promise3OnlyTheFirstBytesAreRead();
        promise3TheTapeIsEmptyThen();
        promise3HalvesStay();
        promise3NothingIsJoinedThen();
        promise3NoneWithAFault();
        promise3NotSoMany();
        promise3NotSoManyLeavesAllAsItWas();
        promise4NoFaultAtFirst();
        promise4OfTheLatestWorkThatWasNotRefused();
        promise4AnotherWhat();
        CHECK.end();
    }

    private static void promise1NoWorkNoHalvesNothingJoined() {
        CHECK.about("promise 1: No WORK, no HALVES, nothing JOINED");
        UnderText x = new UnderText();
        for (int what = 0; what < 8; what++) {
            CHECK.due("count(" + what + ")", 0, x.count(what));
        }
        CHECK.due("list(0, 0, 0)", NONE, x.list(0, 0, 0));
        CHECK.due("light(0, 0, 0, 1)", NONE, x.light(0, 0, 0, 1));
        CHECK.due("quarrels(0, 0, 0)", NONE, x.quarrels(0, 0, 0));
        for (int what = 0; what < 6; what++) {
            CHECK.due("best(0, 0, " + what + ")", NONE, x.best(0, 0, what));
            CHECK.due("leaf(0, " + what + ")", NONE, x.leaf(0, what));
            CHECK.due("book(0, " + what + ")", NONE, x.book(0, what));
        }
        CHECK.due("led(0, 0, 0)", NONE, x.led(0, 0, 0));
        CHECK.due("join()", NONE, x.join());
        CHECK.due("the first HALF is 0", 0, x.half(0, 0, 0));
        CHECK.due("join() without a WORK", NONE, x.join());
    }

    private static void promise1AnEmptyTape() {
        CHECK.about("promise 1: an empty TAPE");
        CHECK.due("work(1)", -2, new UnderText().work(1));
        CHECK.due("work(0)", 0, new UnderText().work(0));
        CHECK.due("the first feed", 20, new UnderText().feed(0, 0, 0, 0, 0));
    }

    private static void promise1ThePriceIs3() {
        CHECK.about("promise 1 and 10: a PRICE, 3 at first");
        UnderText x = new UnderText();
        Check.work(x, "a".repeat(32));
        x.half(0, 0, 0);
        x.half(0, 0, 0);
        CHECK.due("join() of two LEAVES", 6, x.join());
    }

    private static void promise1ObjectsShareNothing() {
        UnderText other = new UnderText();
        Twins.full(other);
        promise1NoWorkNoHalvesNothingJoined();
        promise1AnEmptyTape();
        promise1ThePriceIs3();
        CHECK.about("promise 1: what one object was told, another doesn't know");
        CHECK.due("the other one's LEAVES", 8, other.count(3));
    }

    private static void promise2HowManyItHas() {
        CHECK.about("promise 2: how many it has");
        UnderText x = new UnderText();
        for (int fed = 20; fed <= 400; fed += 20) {
            CHECK.due("feed", fed, x.feed(fed, LEAST, MOST, -1, 0));
        }
    }

    private static void promise2NoneComeBeyond400() {
        CHECK.about("promise 2: NONE, and none come, if it would have more than 400");
        UnderText x = new UnderText();
        Check.feed(x, "a ".repeat(200));
        CHECK.due("the 401st byte", NONE, x.feed(-1, -1, -1, -1, -1));
        CHECK.due("and again", NONE, x.feed(0, 0, 0, 0, 0));
        CHECK.due("work(401)", -2, x.work(401));
        CHECK.due("work(400)", NONE, x.work(400));
        CHECK.due("it is the text's FAULT, not that of a byte that came", 2, x.fault(0));
        CHECK.due("its place", 320, x.fault(1));
        CHECK.due("the emptied TAPE takes bytes again", 20, x.feed(0, 0, 0, 0, 0));
    }

    private static void promise2RefusedLeavesAllAsItWas() {
        CHECK.about("promise 2: NONE, and none come");
        Twins.stayAlike(CHECK, "feed at 400 bytes", Twins::full, x -> x.feed(-1, -1, -1, -1, -1));
    }

    /** Each of the twenty bytes in turn is the one at which the FAULT is. */
    private static void promise2TheHighestByteFirst() {
        CHECK.about("promise 2: four of each number, the highest first");
        for (int at = 0; at < 20; at++) {
            int[] numbers = {0x61616161, 0x61616161, 0x61616161, 0x61616161, 0x61616161};
            int shift = 24 - at % 4 * 8;
            numbers[at / 4] |= 0x80 << shift;
            UnderText x = new UnderText();
            x.feed(numbers[0], numbers[1], numbers[2], numbers[3], numbers[4]);
            CHECK.due("work(" + at + ")", at, x.work(at));
            x.feed(numbers[0], numbers[1], numbers[2], numbers[3], numbers[4]);
            CHECK.due("work(20)", NONE, x.work(20));
            CHECK.due("fault(1)", at, x.fault(1));
        }
    }

    private static void promise3LettersAreAToP() {
        CHECK.about("promise 3: LETTERS a .. p; 10 and 32 tell nothing; FAULT 1 what is none of these");
        for (int b = 0; b < 256; b++) {
            UnderText x = new UnderText();
            boolean letter = b >= 97 && b <= 112;
            boolean nothing = b == 10 || b == 32;
            x.feed(b << 24, 0, 0, 0, 0);
            CHECK.due("work(1) of byte " + b, letter ? 1 : nothing ? 0 : NONE, x.work(1));
            CHECK.due("fault(0) of byte " + b, letter || nothing ? 0 : 1, x.fault(0));
            CHECK.due("fault(1) of byte " + b, letter || nothing ? NONE : 0, x.fault(1));
            if (letter) {
                Check.work(x, String.valueOf((char) b).repeat(32));
                x.half(0, 0, 0);
                x.join();
                CHECK.due("the number of byte " + b, b - 97, x.led(0, 0, 0));
            }
        }
    }

    private static void promise3From0To160Letters() {
        CHECK.about("promise 3: a TEXT of 0 .. 160 LETTERS; FAULT 2 a 161st LETTER (at it)");
        UnderText x = new UnderText();
        CHECK.due("no bytes", 0, x.work(0));
        CHECK.due("blanks alone", 0, Check.work(x, "\n \n"));
        CHECK.due("one letter", 1, Check.work(x, "p"));
        CHECK.due("159 letters", 159, Check.work(x, LETTERS_160.substring(1)));
        CHECK.due("160 letters", 160, Check.work(x, LETTERS_160));
        CHECK.due("fault(0) of 160 letters", 0, x.fault(0));
        CHECK.due("160 letters in 400 bytes", 160, Check.work(x, " ".repeat(120) + LETTERS_160 + "\n".repeat(120)));
        CHECK.due("161 letters", NONE, Check.work(x, LETTERS_160 + "a"));
        CHECK.due("fault(0) of 161 letters", 2, x.fault(0));
        CHECK.due("fault(1) of 161 letters", 160, x.fault(1));
        CHECK.due("400 letters", NONE, Check.work(x, "a".repeat(400)));
        CHECK.due("fault(1) of 400 letters", 160, x.fault(1));
        CHECK.due("the 161st letter is the 400th byte", NONE, Check.work(x, LETTERS_160 + " ".repeat(239) + "a"));
        CHECK.due("fault(0) at the 400th byte", 2, x.fault(0));
        CHECK.due("fault(1) at the 400th byte", 399, x.fault(1));
    }

    private static void promise3TheFirstFaultAlongTheText() {
        CHECK.about("promise 3: FAULTS, the first along the text");
        expectFault("?" + LETTERS_160 + "a", 1, 0);
        expectFault(LETTERS_160 + "?a", 1, 160);
        expectFault(LETTERS_160 + "a?", 2, 160);
        expectFault(LETTERS_160 + " \na?", 2, 162);
        expectFault("a?!", 1, 1);
        expectFault(" ".repeat(399) + "?", 1, 399);
    }

    private static void expectFault(String text, int fault, int place) {
        UnderText x = new UnderText();
        CHECK.due("work of " + text, NONE, Check.work(x, text));
        CHECK.due("fault(0) of " + text, fault, x.fault(0));
        CHECK.due("fault(1) of " + text, place, x.fault(1));
    }

    private static void promise3OnlyTheFirstBytesAreRead() {
        CHECK.about("promise 3: The TAPE's first n bytes are the WORK");
        UnderText x = new UnderText();
        Check.feed(x, "abc?");
        CHECK.due("work(3) ahead of a wrong byte", 3, x.work(3));
        Check.feed(x, "abc?");
        CHECK.due("work(4) up to a wrong byte", NONE, x.work(4));
        Check.feed(x, LETTERS_160 + "a");
        CHECK.due("work(160) ahead of a 161st letter", 160, x.work(160));
        Check.feed(x, "?");
        CHECK.due("work(0) ahead of a wrong byte", 0, x.work(0));
        CHECK.due("fault(0)", 0, x.fault(0));
    }

    private static void promise3TheTapeIsEmptyThen() {
        CHECK.about("promise 3: it is empty then");
        UnderText x = new UnderText();
        for (int n = 0; n <= 40; n += 20) {
            Check.feed(x, "b".repeat(40));
            CHECK.due("work(" + n + ") of 40 bytes", n, x.work(n));
            CHECK.due("one byte behind it", -2, x.work(1));
        }
        Check.feed(x, "?".repeat(40));
        CHECK.due("work(1) with a FAULT", NONE, x.work(1));
        CHECK.due("one byte behind the FAULT", -2, x.work(1));
        CHECK.due("feed has 20 then", 20, x.feed(0, 0, 0, 0, 0));
    }

    private static void promise3HalvesStay() {
        CHECK.about("promise 3: HALVES stay");
        UnderText x = new UnderText();
        x.half(1, 1, 9);
        x.light(0, 1, 7, 0x8001);
        x.light(0, 1, 7, 2);
        CHECK.due("work", 32, Check.work(x, "a".repeat(32)));
        CHECK.due("count(1)", 1, x.count(1));
        CHECK.due("the LIST", 0x8001, x.list(0, 1, 7));
        CHECK.due("LIGHTS AT ODDS", 1, x.count(2));
        CHECK.due("it is LOWER still", NONE, x.best(0, 0, 2));
        CHECK.due("the next HALF is 1", 1, x.half(0, 1, 9));
        CHECK.due("like SIDES and RULINGS still", 1, x.best(0, 1, 2));
    }

    private static void promise3NothingIsJoinedThen() {
        CHECK.about("promise 3: nothing is JOINED then");
        for (String text : new String[] {"", "a".repeat(31), "a".repeat(64)}) {
            UnderText x = new UnderText();
            Check.work(x, "a".repeat(64));
            x.half(0, 0, 0);
            x.half(0, 0, 1);
            x.light(0, 0, 0, 2);
            x.join();
            CHECK.due("LEAVES ahead of it", 2, x.count(3));
            Check.work(x, text);
            for (int what = 3; what < 8; what++) {
                CHECK.due("count(" + what + ")", 0, x.count(what));
            }
            for (int what = 0; what < 6; what++) {
                CHECK.due("leaf(0, " + what + ")", NONE, x.leaf(0, what));
            }
            for (int what = 0; what < 3; what++) {
                CHECK.due("book(0, " + what + ")", NONE, x.book(0, what));
            }
            CHECK.due("led(1, 0, 0)", NONE, x.led(1, 0, 0));
        }
    }

    private static void promise3NoneWithAFault() {
        CHECK.about("promise 3: NONE with a FAULT: the WORK and what was JOINED stay");
        UnderText x = new UnderText();
        Check.work(x, "b".repeat(33));
        x.half(0, 0, 0);
        x.join();
        CHECK.due("a text that is right up to its last byte", NONE, Check.work(x, "c".repeat(40) + "?"));
        CHECK.due("count(0)", 33, x.count(0));
        CHECK.due("count(3)", 1, x.count(3));
        CHECK.due("led(0, 0, 0)", 1, x.led(0, 0, 0));
        CHECK.due("a 161st letter", NONE, Check.work(x, "c".repeat(161)));
        CHECK.due("count(0)", 33, x.count(0));
        CHECK.due("led(0, 0, 0)", 1, x.led(0, 0, 0));
        CHECK.due("join()", 3, x.join());
        CHECK.due("of how many", 2, x.leaf(0, 5));
    }

    private static void promise3NotSoMany() {
        CHECK.about("promise 3: -2: there are not so many, n is below 0");
        UnderText x = new UnderText();
        for (int fed = 0; fed <= 400; fed += 20) {
            for (int n : new int[] {-1, fed + 1, LEAST, MOST}) {
                CHECK.due("work(" + n + ") of " + fed, -2, x.work(n));
            }
            x.feed(0x20202020, 0x20202020, 0x20202020, 0x20202020, 0x20202020);
        }
        CHECK.due("work(400) of 400", 0, x.work(400));
    }

    private static void promise3NotSoManyLeavesAllAsItWas() {
        CHECK.about("promise 3: -2, and the TAPE stays");
        for (int n : new int[] {-1, 401, LEAST, MOST}) {
            Twins.stayAlike(CHECK, "work(" + n + ") when full", Twins::full, x -> x.work(n));
            Twins.stayAlike(CHECK, "work(" + n + ") in use", Twins::inUse, x -> x.work(n));
            Twins.stayAlike(CHECK, "work(" + n + ") when empty", Twins::empty, x -> x.work(n));
        }
        Twins.stayAlike(CHECK, "work(41) of 40", Twins::inUse, x -> x.work(41));
        Twins.stayAlike(CHECK, "work(1) of 0", Twins::empty, x -> x.work(1));
    }

    private static void promise4NoFaultAtFirst() {
        CHECK.about("promise 4: its FAULT (0), its place (NONE)");
        UnderText x = new UnderText();
        CHECK.due("fault(0)", 0, x.fault(0));
        CHECK.due("fault(1)", NONE, x.fault(1));
        x.work(1);
        CHECK.due("fault(0) behind a -2", 0, x.fault(0));
        CHECK.due("fault(1) behind a -2", NONE, x.fault(1));
        x.work(0);
        CHECK.due("fault(0) of no text", 0, x.fault(0));
        CHECK.due("fault(1) of no text", NONE, x.fault(1));
    }

    private static void promise4OfTheLatestWorkThatWasNotRefused() {
        CHECK.about("promise 4: Of the latest work() that was not -2");
        UnderText x = new UnderText();
        Check.work(x, "ab?");
        x.work(-1);
        x.work(1);
        CHECK.due("fault(0) behind two -2", 1, x.fault(0));
        CHECK.due("fault(1) behind two -2", 2, x.fault(1));
        Check.work(x, "a".repeat(161));
        CHECK.due("fault(0) of the next", 2, x.fault(0));
        CHECK.due("fault(1) of the next", 160, x.fault(1));
        Check.work(x, "?");
        CHECK.due("fault(0) of the third", 1, x.fault(0));
        CHECK.due("fault(1) of the third", 0, x.fault(1));
        Check.feed(x, "???");
        CHECK.due("feed leaves it", 1, x.fault(0));
        x.work(0);
        CHECK.due("fault(0) of a good one", 0, x.fault(0));
        CHECK.due("fault(1) of a good one", NONE, x.fault(1));
    }

    private static void promise4AnotherWhat() {
        CHECK.about("promise 4: NONE for another what");
        UnderText x = new UnderText();
        Check.work(x, "abc?");
        for (int what : new int[] {-2, -1, 2, 3, LEAST, MOST}) {
            CHECK.due("fault(" + what + ")", NONE, x.fault(what));
        }
        CHECK.due("fault(0)", 1, x.fault(0));
        CHECK.due("fault(1)", 3, x.fault(1));
    }
}
