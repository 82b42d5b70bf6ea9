/** The boundary cases of promises 13 to 15 (book, led, count), a test for each sentence. */
public final class EdgesOfPromises13To15Test {
    private static final Check CHECK = new Check();
    private static final int NONE = UnderText.NONE;
    private static final int LEAST = Integer.MIN_VALUE;
    private static final int MOST = Integer.MAX_VALUE;
    private static final int[] NUMBERS = {LEAST, -2, -1, 0, 1, 2, 3, 4, 5, 6, 7, 8, 9, MOST};

    public static void main(String[] args) {
        promise13NoneSuch();
        promise13LeavesByTheirPlaces();
        promise13OfLikeOnesByNumbers();
        promise13TheOrderAnew();
        promise13LostOrClash();
        promise13TheLast();
        promise13ABreakOnlyIfNothingIsBetween();
        promise13TheSideOfEachKindOfLeaf();
        promise14NoSuchSpot();
        promise14ItWasNotJoined();
        promise14TheListHasntIt();
        promise14TheListOfThen();
        promise14AtTheWorksEnds();
        promise15AnotherWhat();
        promise15LettersAndHalves();
        promise15LightsAtOddsOfAllThatCame();
        promise15The512thCall();
        promise15OfLeavesAsJoined();
        promise15QuestionsChangeNothing();
        CHECK.end();
    }

    private static boolean isWithin(int n, int most) {
        return n >= 0 && n <= most;
    }

    private static UnderText deskOf(String text) {
        UnderText x = new UnderText();
        Check.work(x, text);
        return x;
    }

    /** HALF i, UPPER and alone, has its BEST just at places[i]: a letter of its own stands there. */
    private static UnderText joinedAt(int[] sides, int... places) {
        StringBuilder text = new StringBuilder("a".repeat(160));
        for (int place : places) {
            text.setCharAt(place, (char) ('b' + indexOf(places, place)));
        }
        UnderText x = deskOf(text.toString());
        for (int h = 0; h < places.length; h++) {
            x.half(0, sides[h % sides.length], h);
            x.light(h, 0, 0, 2 << indexOf(places, places[h]));
        }
        x.join();
        for (int h = 0; h < places.length; h++) {
            CHECK.due("the set-up: leaf(" + h + ", 2)", places[h], x.leaf(h, 2));
        }
        return x;
    }

    private static int indexOf(int[] places, int place) {
        for (int i = 0; i < places.length; i++) {
            if (places[i] == place) {
                return i;
            }
        }
        return places.length;
    }

    private static void expectCounts(UnderText x, int clashes, int breaks, int lost) {
        CHECK.due("count(5)", clashes, x.count(5));
        CHECK.due("count(6)", breaks, x.count(6));
        CHECK.due("count(7)", lost, x.count(7));
    }

    private static void promise13NoneSuch() {
        CHECK.about("promise 13: NONE if there is none such");
        for (int leaves = 0; leaves <= 8; leaves += 2) {
            UnderText x = deskOf("a".repeat(32));
            for (int h = 0; h < leaves; h++) {
                x.half(0, 0, h);
            }
            CHECK.due("book(0, 0) ahead of join()", NONE, x.book(0, 0));
            CHECK.due("book(0, 2) ahead of join()", NONE, x.book(0, 2));
            x.join();
            for (int k : NUMBERS) {
                for (int what : NUMBERS) {
                    boolean is = isWithin(k, leaves - 1) && isWithin(what, 2);
                    int[] due = {k, NONE, 0};
                    CHECK.due(leaves + " LEAVES, book(" + k + ", " + what + ")", is ? due[what] : NONE, x.book(k, what));
                }
            }
        }
    }

    private static void promise13LeavesByTheirPlaces() {
        CHECK.about("promise 13: LEAVES by their PLACES");
        int[][] cases = {{0, 128}, {128, 0}, {128, 96, 64, 32, 0}, {5, 4, 3, 2, 1, 0, 7, 6}, {0, 1, 2, 3, 4, 5, 6, 7}};
        for (int[] places : cases) {
            UnderText x = joinedAt(new int[] {0}, places);
            int last = -1;
            for (int k = 0; k < places.length; k++) {
                int number = x.book(k, 0);
                CHECK.due("book(" + k + ", 0) is a LEAF", true, isWithin(number, places.length - 1));
                CHECK.due("it is beyond the one ahead", true, x.leaf(number, 2) > last);
                last = x.leaf(number, 2);
            }
        }
    }

    private static void promise13OfLikeOnesByNumbers() {
        CHECK.about("promise 13: of like ones by numbers");
        UnderText x = joinedAt(new int[] {0}, 9, 9, 3, 9, 3, 128, 9, 3);
        int[] due = {2, 4, 7, 0, 1, 3, 6, 5};
        for (int k = 0; k < due.length; k++) {
            CHECK.due("book(" + k + ", 0)", due[k], x.book(k, 0));
        }
        x = joinedAt(new int[] {0}, 128, 128);
        CHECK.due("book(0, 0)", 0, x.book(0, 0));
        CHECK.due("book(1, 0)", 1, x.book(1, 0));
    }

    private static void promise13TheOrderAnew() {
        CHECK.about("promise 13: the BOOK of what was JOINED last");
        UnderText x = joinedAt(new int[] {0}, 128, 64, 0);
        for (int k = 0; k < 3; k++) {
            CHECK.due("book(" + k + ", 0)", 2 - k, x.book(k, 0));
        }
        Check.work(x, "b" + "a".repeat(31) + "c" + "a".repeat(31) + "d" + "a".repeat(31));
        x.join();
        for (int k = 0; k < 3; k++) {
            CHECK.due("book(" + k + ", 0) anew", k, x.book(k, 0));
        }
    }

    private static void promise13LostOrClash() {
        CHECK.about("promise 13: LOST: by 32, if that is 0 or more and goes just; else they CLASH");
        for (int first = 0; first <= 2; first++) {
            for (int second = first; second <= 128; second++) {
                UnderText x = joinedAt(new int[] {0, 1}, first, second);
                int beyond = second - first - 32;
                boolean clash = beyond < 0 || beyond % 32 != 0;
                CHECK.due("book(0, 1), beyond by " + beyond, clash ? NONE : beyond / 32, x.book(0, 1));
                expectCounts(x, clash ? 1 : 0, 0, clash ? 0 : beyond / 32);
            }
        }
    }

    private static void promise13TheLast() {
        CHECK.about("promise 13: NONE: it is the last");
        UnderText x = joinedAt(new int[] {0}, 64);
        CHECK.due("book(0, 0) of one", 0, x.book(0, 0));
        CHECK.due("book(0, 1) of one", NONE, x.book(0, 1));
        CHECK.due("book(0, 2) of one", 0, x.book(0, 2));
        expectCounts(x, 0, 0, 0);
        x = joinedAt(new int[] {0}, 0, 32, 64, 96, 128);
        CHECK.due("book(3, 1) of five", 0, x.book(3, 1));
        CHECK.due("book(4, 1) of five", NONE, x.book(4, 1));
        CHECK.due("book(3, 2) of five", 1, x.book(3, 2));
        CHECK.due("book(4, 2) of five", 0, x.book(4, 2));
        expectCounts(x, 0, 4, 0);
    }

    private static void promise13ABreakOnlyIfNothingIsBetween() {
        CHECK.about("promise 13: if just nothing is between them, back and front must be of like SIDES; else a BREAK");
        for (int second : new int[] {1, 31, 32, 33, 63, 64, 96, 128}) {
            for (int sides = 0; sides < 4; sides++) {
                UnderText x = joinedAt(new int[] {sides % 2, sides / 2}, 0, second);
                // a back is of the other SIDE than its front, so like fronts are unlike where they face
                boolean isBreak = second == 32 && sides % 2 == sides / 2;
                CHECK.due("book(0, 2), next at " + second + ", sides " + sides, isBreak ? 1 : 0, x.book(0, 2));
                CHECK.due("book(1, 2)", 0, x.book(1, 2));
                CHECK.due("count(6)", isBreak ? 1 : 0, x.count(6));
            }
        }
    }

    /** Three LEAVES one just behind the other: of two HALVES, of a LOWER one alone, of an UPPER one alone. */
    private static void promise13TheSideOfEachKindOfLeaf() {
        CHECK.about("promise 13: its front's SIDE; its back's is the other one");
        for (int sides = 0; sides < 8; sides++) {
            int first = sides & 1;
            int second = sides >> 1 & 1;
            int third = sides >> 2;
            UnderText x = deskOf("b" + "a".repeat(39) + "c" + "a".repeat(23) + "d" + "a".repeat(31));
            x.half(1, first, 1);
            x.half(0, first, 1);
            x.half(1, second, 2);
            x.half(0, third, 3);
            x.light(1, 0, 0, Check.bit('b'));
            x.light(2, 0, 0, Check.bit('c'));
            x.light(3, 0, 0, Check.bit('d'));
            CHECK.due("join()", 9, x.join());
            CHECK.due("sides " + sides + ", book(0, 2)", first == second ? 1 : 0, x.book(0, 2));
            CHECK.due("sides " + sides + ", book(1, 2)", second == third ? 1 : 0, x.book(1, 2));
            expectCounts(x, 0, (first == second ? 1 : 0) + (second == third ? 1 : 0), 0);
        }
    }

    private static void promise14NoSuchSpot() {
        CHECK.about("promise 14: NONE: none such");
        for (int halves = 0; halves <= 8; halves += 4) {
            UnderText x = deskOf("p".repeat(32));
            for (int h = 0; h < halves; h++) {
                x.half(2, 1, 9);
            }
            x.join();
            for (int n : NUMBERS) {
                CHECK.due(halves + " HALVES, led(" + n + ", 1, 7)", isWithin(n, halves - 1) ? 15 : NONE, x.led(n, 1, 7));
            }
            for (int face : NUMBERS) {
                for (int spot : NUMBERS) {
                    boolean is = halves > 0 && isWithin(face, 1) && isWithin(spot, 7);
                    CHECK.due("led(0, " + face + ", " + spot + ")", is ? 15 : NONE, x.led(0, face, spot));
                }
            }
        }
    }

    private static void promise14ItWasNotJoined() {
        CHECK.about("promise 14: NONE: it was not JOINED");
        UnderText x = deskOf("b".repeat(32));
        x.half(0, 0, 0);
        CHECK.due("ahead of join()", NONE, x.led(0, 0, 0));
        x.join();
        CHECK.due("behind join()", 1, x.led(0, 0, 0));
        x.half(1, 0, 0);
        CHECK.due("a HALF that came later", NONE, x.led(1, 0, 0));
        x.join();
        CHECK.due("joined anew", 1, x.led(1, 0, 0));
        Check.work(x, "b".repeat(32));
        CHECK.due("HALF 0 behind work()", NONE, x.led(0, 0, 0));
        CHECK.due("HALF 1 behind work()", NONE, x.led(1, 0, 0));
    }

    private static void promise14TheListHasntIt() {
        CHECK.about("promise 14: if the LIST (of then) hasn't it: none");
        for (int letter = 0; letter < 16; letter++) {
            UnderText x = deskOf(String.valueOf((char) ('a' + letter)).repeat(32));
            x.half(0, 0, 0);
            x.light(0, 0, 0, 1 << letter);
            x.light(0, 0, 1, 65535 & ~(1 << letter));
            x.join();
            CHECK.due("a LIST of letter " + letter + " alone", letter, x.led(0, 0, 0));
            CHECK.due("a LIST of all but letter " + letter, NONE, x.led(0, 0, 1));
            CHECK.due("a LIST of all, letter " + letter, letter, x.led(0, 0, 2));
        }
    }

    private static void promise14TheListOfThen() {
        CHECK.about("promise 14: the LIST (of then)");
        UnderText x = deskOf("b".repeat(32));
        x.half(0, 0, 0);
        x.join();
        x.light(0, 0, 0, 1);
        x.light(0, 1, 7, 0xfffd);
        CHECK.due("led(0, 0, 0)", 1, x.led(0, 0, 0));
        CHECK.due("led(0, 1, 7)", 1, x.led(0, 1, 7));
        CHECK.due("list(0, 0, 0)", 1, x.list(0, 0, 0));
        x.join();
        CHECK.due("led(0, 0, 0) anew", NONE, x.led(0, 0, 0));
        CHECK.due("led(0, 1, 7) anew", NONE, x.led(0, 1, 7));
    }

    private static void promise14AtTheWorksEnds() {
        CHECK.about("promise 14: the WORK's LETTER there, up to the WORK's last one");
        UnderText x = deskOf("c" + "a".repeat(126) + "b" + "defghijk" + "lmnopabc" + "kjihgfed" + "cbaponm" + "o");
        x.half(0, 0, 0);
        x.half(1, 0, 0);
        x.light(0, 0, 0, Check.bit('d'));
        x.light(0, 0, 1, Check.bit('e'));
        x.light(1, 1, 7, Check.bit('o'));
        x.join();
        CHECK.due("the last PLACE", 128, x.leaf(0, 2));
        CHECK.due("its first letter", 3, x.led(0, 0, 0));
        CHECK.due("its ninth letter", 11, x.led(1, 0, 0));
        CHECK.due("its 17th letter", 10, x.led(0, 1, 0));
        CHECK.due("the WORK's last letter", 14, x.led(1, 1, 7));
        x = deskOf("c" + "a".repeat(159));
        x.half(0, 0, 0);
        x.light(0, 0, 0, Check.bit('c'));
        x.join();
        CHECK.due("the WORK's first letter", 2, x.led(0, 0, 0));
    }

    private static void promise15AnotherWhat() {
        CHECK.about("promise 15: NONE for another what");
        UnderText full = new UnderText();
        Twins.full(full);
        for (int what : NUMBERS) {
            boolean is = isWithin(what, 7);
            CHECK.due("new: count(" + what + ")", is ? 0 : NONE, new UnderText().count(what));
            CHECK.due("full: count(" + what + ") is NONE", !is, full.count(what) == NONE);
        }
    }

    private static void promise15LettersAndHalves() {
        CHECK.about("promise 15: 0 LETTERS of the WORK, 1 HALVES");
        UnderText x = new UnderText();
        for (int letters : new int[] {0, 1, 160, 31, 0}) {
            Check.work(x, "a".repeat(letters));
            CHECK.due("count(0)", letters, x.count(0));
        }
        for (int h = 1; h <= 10; h++) {
            x.half(0, 0, 0);
            CHECK.due("count(1)", Math.min(h, 8), x.count(1));
        }
    }

    private static void promise15LightsAtOddsOfAllThatCame() {
        CHECK.about("promise 15: 2 LIGHTS that were AT ODDS (of all that came)");
        UnderText x = new UnderText();
        x.half(0, 0, 0);
        x.light(0, 0, 0, 1);
        for (int odds = 1; odds <= 200; odds++) {
            x.light(0, 0, 0, 2);
            CHECK.due("count(2)", odds, x.count(2));
        }
        x.light(0, 0, 0, 0);
        x.light(1, 0, 0, 2);
        x.light(0, 0, 0, 3);
        CHECK.due("a wrong or a good LIGHT is none of them", 200, x.count(2));
        Check.work(x, "a".repeat(32));
        x.join();
        CHECK.due("neither work() nor join() takes one back", 200, x.count(2));
    }

    private static void promise15The512thCall() {
        CHECK.about("promise 15: an object is used for at most 512 calls: the last of them is answered too");
        UnderText x = new UnderText();
        x.half(0, 0, 0);
        x.light(0, 0, 0, 1);
        for (int call = 3; call < 512; call++) {
            x.light(0, 0, 0, 2);
        }
        CHECK.due("count(2) as the 512th call", 509, x.count(2));
    }

    private static void promise15OfLeavesAsJoined() {
        CHECK.about("promise 15: 3 LEAVES as JOINED, 4 QUARRELS of these together, 5 CLASHES, 6 BREAKS, 7 LOST in all");
        UnderText x = joinedAt(new int[] {0}, 0, 32, 128, 64, 65);
        CHECK.due("count(3)", 5, x.count(3));
        CHECK.due("count(4)", 0, x.count(4));
        expectCounts(x, 2, 2, 0);
        x = joinedAt(new int[] {1}, 128, 0);
        expectCounts(x, 0, 0, 3);
        x = joinedAt(new int[] {1, 0}, 0, 64, 128);
        expectCounts(x, 0, 0, 2);
        x.light(0, 0, 1, 0x8000);
        x.half(2, 0, 0);
        CHECK.due("count(3) behind a later HALF", 3, x.count(3));
        CHECK.due("count(4) behind a later LIGHT", 0, x.count(4));
        x.join();
        CHECK.due("count(3) anew", 4, x.count(3));
        CHECK.due("count(4) anew", 1, x.count(4));
        x = joinedAt(new int[] {0}, 7, 7, 7, 7, 7, 7, 7, 7);
        CHECK.due("count(3) of eight", 8, x.count(3));
        expectCounts(x, 7, 0, 0);
    }

    private static void promise15QuestionsChangeNothing() {
        CHECK.about("promise 4, 7, 12 to 15: a question changes nothing, a refused one neither");
        Twins.stayAlike(CHECK, "questions", Twins::inUse, x -> {
            for (int what = -1; what < 9; what++) {
                x.count(what);
                x.fault(what);
                x.leaf(what, 0);
                x.leaf(0, what);
                x.book(what, 0);
                x.book(0, what);
                x.led(what, 0, 0);
                x.list(what, 0, 0);
            }
        });
    }
}
