/** The boundary cases of promises 5 to 8 (half, light, list, quarrels), a test for each sentence. */
public final class EdgesOfPromises5To8Test {
    private static final Check CHECK = new Check();
    private static final int NONE = UnderText.NONE;
    private static final int LEAST = Integer.MIN_VALUE;
    private static final int MOST = Integer.MAX_VALUE;

    public static void main(String[] args) {
        promise5ItCantBe();
        promise5ThereAre8();
        promise5RefusedLeavesAllAsItWas();
        promise6All16AtFirst();
        promise6LettersFrom1To65535();
        promise6NoSuchHalfFaceOrSpot();
        promise6HowManyTheListHasThen();
        promise6AtOdds();
        promise6AWrongCallIsNotAtOdds();
        promise6RefusedLeavesAllAsItWas();
        promise6ALightIsOfItsSpotAlone();
        promise7NoneSuch();
        promise8ThePlaceUpToTheLettersLess32();
        promise8NoSuchHalfOrPart();
        promise8FromNoneTo16();
        promise8AHalfsLinesInTheLeaf();
        promise8WhateverItIs();
        CHECK.end();
    }

    private static boolean isWithin(int n, int most) {
        return n >= 0 && n <= most;
    }

    private static void promise5ItCantBe() {
        CHECK.about("promise 5: NONE: it can't be (part 0 .. 2, SIDE 0 or 1, RULING 0 .. 9)");
        int[] numbers = {LEAST, -2, -1, 0, 1, 2, 3, 4, 8, 9, 10, 11, MOST};
        for (int part : numbers) {
            for (int side : numbers) {
                for (int ruling : numbers) {
                    UnderText x = new UnderText();
                    boolean canBe = isWithin(part, 2) && isWithin(side, 1) && isWithin(ruling, 9);
                    CHECK.due("half(" + part + ", " + side + ", " + ruling + ")", canBe ? 0 : NONE,
                        x.half(part, side, ruling));
                    CHECK.due("count(1) then", canBe ? 1 : 0, x.count(1));
                }
            }
        }
    }

    private static void promise5ThereAre8() {
        CHECK.about("promise 5: NONE: there are 8; HALVES, at most 8, numbered from 0 on");
        UnderText x = new UnderText();
        for (int h = 0; h < 8; h++) {
            CHECK.due("a HALF that can't be takes no number", NONE, x.half(3, 0, 0));
            CHECK.due("HALF " + h, h, x.half(h % 3, h % 2, 9 - h));
        }
        CHECK.due("a ninth", NONE, x.half(0, 0, 0));
        CHECK.due("a tenth", NONE, x.half(2, 1, 9));
        CHECK.due("count(1)", 8, x.count(1));
        CHECK.due("the LIST of the eighth", 65535, x.list(7, 1, 7));
        CHECK.due("no LIST of a ninth", NONE, x.list(8, 0, 0));
    }

    private static void promise5RefusedLeavesAllAsItWas() {
        CHECK.about("promise 5: NONE: nothing comes");
        Twins.stayAlike(CHECK, "half(0, 0, 0) at 8", Twins::full, x -> x.half(0, 0, 0));
        int[][] wrong = {{-1, 0, 0}, {3, 0, 0}, {0, -1, 0}, {0, 2, 0}, {0, 0, -1}, {0, 0, 10}};
        for (int[] w : wrong) {
            String call = "half(" + w[0] + ", " + w[1] + ", " + w[2] + ")";
            Twins.stayAlike(CHECK, call, Twins::inUse, x -> x.half(w[0], w[1], w[2]));
            Twins.stayAlike(CHECK, call, Twins::empty, x -> x.half(w[0], w[1], w[2]));
        }
    }

    private static void promise6All16AtFirst() {
        CHECK.about("promise 6 and 7: LIST of a SPOT: all 16 at first");
        UnderText x = new UnderText();
        for (int h = 0; h < 8; h++) {
            x.half(2, 0, 0);
            for (int i = 0; i < 16; i++) {
                CHECK.due("list " + h + " " + i, 65535, x.list(h, i / 8, i % 8));
            }
            x.light(h, 0, 0, 1);
            x.light(h, 1, 7, 1);
        }
        CHECK.due("a LIGHT of all 16", 16, x.light(0, 0, 1, 65535));
        CHECK.due("the LIST then", 65535, x.list(0, 0, 1));
    }

    private static void promise6LettersFrom1To65535() {
        CHECK.about("promise 6: which LETTERS may stand there (16 bits; not 0)");
        int[] taken = {1, 2, 32768, 65534, 65535};
        for (int letters : taken) {
            UnderText x = new UnderText();
            x.half(0, 0, 0);
            CHECK.due("light " + letters, Integer.bitCount(letters), x.light(0, 0, 0, letters));
            CHECK.due("the LIST behind " + letters, letters, x.list(0, 0, 0));
        }
        int[] refused = {0, -1, -2, -65536, 65536, 65537, 131071, LEAST, LEAST + 1, MOST};
        for (int letters : refused) {
            UnderText x = new UnderText();
            x.half(0, 0, 0);
            CHECK.due("light " + letters, NONE, x.light(0, 0, 0, letters));
            CHECK.due("the LIST behind " + letters, 65535, x.list(0, 0, 0));
            CHECK.due("AT ODDS behind " + letters, 0, x.count(2));
        }
    }

    private static void promise6NoSuchHalfFaceOrSpot() {
        CHECK.about("promise 6: NONE: no such HALF, face (0 front, 1 back), SPOT (0 .. 7)");
        int[] numbers = {LEAST, -2, -1, 0, 1, 2, 3, 6, 7, 8, 9, MOST};
        for (int halves = 0; halves <= 8; halves += 2) {
            UnderText x = new UnderText();
            for (int h = 0; h < halves; h++) {
                x.half(0, 0, 0);
            }
            for (int n : numbers) {
                CHECK.due(halves + " HALVES, half " + n, isWithin(n, halves - 1) ? 1 : NONE, x.light(n, 0, 0, 1));
            }
        }
        UnderText x = new UnderText();
        x.half(0, 0, 0);
        for (int face : numbers) {
            for (int spot : numbers) {
                boolean taken = isWithin(face, 1) && isWithin(spot, 7);
                CHECK.due("light(0, " + face + ", " + spot + ", 2)", taken ? 1 : NONE, x.light(0, face, spot, 2));
            }
        }
    }

    private static void promise6HowManyTheListHasThen() {
        CHECK.about("promise 6: how many LETTERS the LIST has then; each LIGHT leaves what is in both");
        UnderText x = new UnderText();
        x.half(0, 0, 0);
        for (int left = 15; left >= 1; left--) {
            int withoutOne = 65535 & ~(1 << left);
            CHECK.due("one letter less", left, x.light(0, 1, 7, withoutOne));
            CHECK.due("the LIST", (1 << left) - 1, x.list(0, 1, 7));
        }
        CHECK.due("the last letter again", 1, x.light(0, 1, 7, 1));
        CHECK.due("the last letter among all", 1, x.light(0, 1, 7, 65535));
        CHECK.due("none AT ODDS", 0, x.count(2));
    }

    private static void promise6AtOdds() {
        CHECK.about("promise 6: -2: it is AT ODDS: the LIST stays");
        UnderText x = new UnderText();
        x.half(2, 1, 0);
        x.light(0, 0, 7, 0x8001);
        CHECK.due("all others", -2, x.light(0, 0, 7, 0x7ffe));
        CHECK.due("the LIST", 0x8001, x.list(0, 0, 7));
        CHECK.due("one of the two is left", 1, x.light(0, 0, 7, 0xfffe));
        CHECK.due("and now the other one is AT ODDS", -2, x.light(0, 0, 7, 1));
        CHECK.due("count(2)", 2, x.count(2));
        CHECK.due("the LIST", 0x8000, x.list(0, 0, 7));
        for (int i = 0; i < 16; i++) {
            CHECK.due("list " + i, i == 7 ? 0x8000 : 65535, x.list(0, i / 8, i % 8));
        }
    }

    private static void promise6AWrongCallIsNotAtOdds() {
        CHECK.about("promise 6: NONE: no such ones, whether or not a letter would be left");
        UnderText x = new UnderText();
        x.half(0, 0, 0);
        x.light(0, 0, 0, 1);
        int[][] wrong = {{1, 0, 0, 2}, {-1, 0, 0, 2}, {0, 2, 0, 2}, {0, -1, 0, 2}, {0, 0, 8, 2}, {0, 0, -1, 2},
            {0, 0, 0, 0}, {0, 0, 0, 65536}, {0, 0, 0, -2}};
        for (int[] w : wrong) {
            CHECK.due("light " + w[0] + " " + w[1] + " " + w[2] + " " + w[3], NONE, x.light(w[0], w[1], w[2], w[3]));
        }
        CHECK.due("count(2)", 0, x.count(2));
    }

    private static void promise6RefusedLeavesAllAsItWas() {
        CHECK.about("promise 6: NONE: nothing is told");
        int[][] wrong = {{-1, 0, 0, 1}, {8, 0, 0, 1}, {0, -1, 0, 1}, {0, 2, 0, 1}, {0, 0, -1, 1}, {0, 0, 8, 1},
            {0, 1, 8, 1}, {0, 0, 0, 0}, {0, 0, 0, 65536}, {0, 0, 0, -1}, {7, 1, 8, 1}, {7, 2, 0, 1}};
        for (int[] w : wrong) {
            String call = "light(" + w[0] + ", " + w[1] + ", " + w[2] + ", " + w[3] + ")";
            Twins.stayAlike(CHECK, call, Twins::full, x -> x.light(w[0], w[1], w[2], w[3]));
            Twins.stayAlike(CHECK, call, Twins::inUse, x -> x.light(w[0], w[1], w[2], w[3]));
        }
        Twins.stayAlike(CHECK, "light(0, 0, 0, 1)", Twins::empty, x -> x.light(0, 0, 0, 1));
        Twins.stayAlike(CHECK, "light(4, 0, 0, 1)", Twins::inUse, x -> x.light(4, 0, 0, 1));
    }

    private static void promise6ALightIsOfItsSpotAlone() {
        CHECK.about("promise 6: A LIGHT tells of a SPOT; on its front (0) and back (1) a LINE of 8 SPOTS each");
        int[][] corners = {{0, 0, 0}, {0, 0, 7}, {0, 1, 0}, {0, 1, 7}, {7, 0, 0}, {7, 0, 7}, {7, 1, 0}, {7, 1, 7}};
        for (int[] c : corners) {
            UnderText x = new UnderText();
            for (int h = 0; h < 8; h++) {
                x.half(0, 0, 0);
            }
            x.light(c[0], c[1], c[2], 0x0100);
            for (int i = 0; i < 128; i++) {
                boolean lit = i == c[0] * 16 + c[1] * 8 + c[2];
                CHECK.due("list " + i, lit ? 0x0100 : 65535, x.list(i / 16, i / 8 % 2, i % 8));
            }
        }
    }

    private static void promise7NoneSuch() {
        CHECK.about("promise 7: NONE: none such");
        int[] numbers = {LEAST, -2, -1, 0, 1, 2, 3, 6, 7, 8, 9, MOST};
        for (int halves = 0; halves <= 8; halves += 4) {
            UnderText x = new UnderText();
            for (int h = 0; h < halves; h++) {
                x.half(2, 1, 9);
            }
            for (int n : numbers) {
                CHECK.due(halves + " HALVES, list(" + n + ", 0, 0)", isWithin(n, halves - 1) ? 65535 : NONE,
                    x.list(n, 0, 0));
            }
            for (int face : numbers) {
                for (int spot : numbers) {
                    boolean is = halves > 0 && isWithin(face, 1) && isWithin(spot, 7);
                    CHECK.due("list(0, " + face + ", " + spot + ")", is ? 65535 : NONE, x.list(0, face, spot));
                }
            }
        }
    }

    private static void promise8ThePlaceUpToTheLettersLess32() {
        CHECK.about("promise 8: PLACE (0 up to the WORK's LETTERS less 32)");
        for (int letters : new int[] {0, 1, 31, 32, 33, 63, 64, 159, 160}) {
            UnderText x = new UnderText();
            x.half(0, 0, 0);
            Check.work(x, "a".repeat(letters));
            for (int place : new int[] {LEAST, -1, 0, 1, letters - 33, letters - 32, letters - 31, 128, 129, MOST}) {
                boolean is = place >= 0 && place <= letters - 32;
                CHECK.due(letters + " LETTERS, place " + place, is ? 0 : NONE, x.quarrels(0, 0, place));
                CHECK.due(letters + " LETTERS, place " + place, is ? 0 : NONE, x.quarrels(0, 1, place));
            }
        }
    }

    private static void promise8NoSuchHalfOrPart() {
        CHECK.about("promise 8: NONE: no such ones");
        int[] numbers = {LEAST, -2, -1, 0, 1, 2, 3, 7, 8, 9, MOST};
        for (int halves = 0; halves <= 8; halves += 2) {
            UnderText x = new UnderText();
            Check.work(x, "a".repeat(32));
            for (int h = 0; h < halves; h++) {
                x.half(2, 0, 0);
            }
            for (int half : numbers) {
                for (int part : new int[] {LEAST, -1, 0, 1, 2, 3, MOST}) {
                    boolean is = isWithin(half, halves - 1) && isWithin(part, 1);
                    CHECK.due(halves + " HALVES, quarrels(" + half + ", " + part + ", 0)", is ? 0 : NONE,
                        x.quarrels(half, part, 0));
                }
            }
        }
    }

    private static void promise8FromNoneTo16() {
        CHECK.about("promise 8: QUARRELS at a SPOT if its LIST doesn't have the WORK's LETTER there");
        UnderText x = new UnderText();
        Check.work(x, "p".repeat(160));
        x.half(0, 0, 0);
        for (int i = 0; i < 16; i++) {
            CHECK.due("as UPPER, " + i + " SPOTS without p", i, x.quarrels(0, 0, 128));
            CHECK.due("as LOWER, " + i + " SPOTS without p", i, x.quarrels(0, 1, 0));
            x.light(0, i / 8, i % 8, 0xfffe);
            CHECK.due("a LIST that has p still", i, x.quarrels(0, 0, 0));
            x.light(0, i / 8, i % 8, 0x7fff);
        }
        CHECK.due("all 16", 16, x.quarrels(0, 0, 0));
        CHECK.due("all 16", 16, x.quarrels(0, 1, 128));
    }

    /** The one letter b stands at each place of the LEAF in turn: just one SPOT of one HALF may quarrel with it. */
    private static void promise8AHalfsLinesInTheLeaf() {
        CHECK.about("promise 8: front of the UPPER half, front of the LOWER one, back of the UPPER, back of the LOWER");
        for (int at = 0; at < 32; at++) {
            UnderText x = new UnderText();
            Check.work(x, "a".repeat(at) + "b" + "a".repeat(31 - at));
            int spot = at / 16 * 8 + at % 8;
            for (int h = 0; h < 2; h++) {
                x.half(2, 0, 0);
            }
            x.light(0, spot / 8, spot % 8, Check.bit('a'));
            boolean upper = at / 8 % 2 == 0;
            CHECK.due("as UPPER, b at " + at, upper ? 1 : 0, x.quarrels(0, 0, 0));
            CHECK.due("as LOWER, b at " + at, upper ? 0 : 1, x.quarrels(0, 1, 0));
            Check.see(x, 1, 0, "aaaaaaaa");
            Check.see(x, 1, 1, "aaaaaaaa");
            CHECK.due("all seen, as UPPER, b at " + at, upper ? 1 : 0, x.quarrels(1, 0, 0));
            CHECK.due("all seen, as LOWER, b at " + at, upper ? 0 : 1, x.quarrels(1, 1, 0));
        }
    }

    private static void promise8WhateverItIs() {
        CHECK.about("promise 8: (Whatever it is.)");
        UnderText x = new UnderText();
        Check.work(x, "a".repeat(8) + "b".repeat(24));
        for (int part = 0; part < 3; part++) {
            x.half(part, 0, 0);
            x.light(part, 0, 0, Check.bit('a'));
            CHECK.due("part " + part + " as UPPER", 0, x.quarrels(part, 0, 0));
            CHECK.due("part " + part + " as LOWER", 1, x.quarrels(part, 1, 0));
        }
    }
}
