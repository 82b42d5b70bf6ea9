/** Promises 5 to 8: half, light, list, quarrels. */
public final class HalvesTest {
    private static final Check CHECK = new Check();
    private static final int LEAST = Integer.MIN_VALUE;
    private static final int MOST = Integer.MAX_VALUE;

    public static void main(String[] args) {
        halvesAreNumberedUpToEight();
        halvesThatCanNotBe();
        lightsNarrow();
        lightsAtOdds();
        wrongLights();
        listsOfAllSpots();
        quarrelsOfEachLine();
        quarrelsWhateverTheHalfIs();
        wrongQuarrels();
        CHECK.end();
    }

    private static void halvesAreNumberedUpToEight() {
        UnderText x = new UnderText();
        CHECK.due("a wrong one takes no number", -1, x.half(0, 0, 10));
        for (int h = 0; h < 8; h++) {
            CHECK.due("half " + h, h, x.half(h % 3, h % 2, h + 1));
            CHECK.due("count(1)", h + 1, x.count(1));
        }
        CHECK.due("a ninth", -1, x.half(0, 0, 0));
        CHECK.due("count(1) stays", 8, x.count(1));
        CHECK.due("no list of a ninth", -1, x.list(8, 0, 0));
    }

    private static void halvesThatCanNotBe() {
        UnderText x = new UnderText();
        int[][] wrong = {{-1, 0, 0}, {3, 0, 0}, {0, -1, 0}, {0, 2, 0}, {0, 0, -1}, {0, 0, 10},
            {LEAST, 0, 0}, {MOST, 0, 0}, {0, LEAST, 0}, {0, MOST, 0}, {0, 0, LEAST}, {0, 0, MOST}};
        for (int[] w : wrong) {
            CHECK.due("half(" + w[0] + ", " + w[1] + ", " + w[2] + ")", -1, x.half(w[0], w[1], w[2]));
        }
        CHECK.due("count(1)", 0, x.count(1));
        CHECK.due("half(2, 1, 9)", 0, x.half(2, 1, 9));
        CHECK.due("half(0, 0, 0)", 1, x.half(0, 0, 0));
    }

    private static void lightsNarrow() {
        UnderText x = new UnderText();
        x.half(0, 0, 0);
        CHECK.due("all letters at first", 65535, x.list(0, 1, 7));
        CHECK.due("all letters", 16, x.light(0, 1, 7, 65535));
        CHECK.due("eight", 8, x.light(0, 1, 7, 0xff00));
        CHECK.due("what is in both", 4, x.light(0, 1, 7, 0x0ff0 | 0x000f));
        CHECK.due("the list", 0x0f00, x.list(0, 1, 7));
        CHECK.due("other spots stay", 65535, x.list(0, 1, 6));
        CHECK.due("other faces stay", 65535, x.list(0, 0, 7));
        CHECK.due("the highest letter", 1, x.light(0, 0, 0, 0x8000));
        CHECK.due("its list", 0x8000, x.list(0, 0, 0));
        CHECK.due("none at odds", 0, x.count(2));
    }

    private static void lightsAtOdds() {
        UnderText x = new UnderText();
        x.half(1, 1, 5);
        x.light(0, 0, 3, 6);
        CHECK.due("at odds", -2, x.light(0, 0, 3, 9));
        CHECK.due("the list stays", 6, x.list(0, 0, 3));
        CHECK.due("at odds again", -2, x.light(0, 0, 3, 1));
        CHECK.due("count(2)", 2, x.count(2));
        CHECK.due("a good one", 1, x.light(0, 0, 3, 3));
        CHECK.due("its list", 2, x.list(0, 0, 3));
        x.light(0, 0, 3, 0);
        x.light(1, 0, 3, 1);
        CHECK.due("a wrong light is not at odds", 2, x.count(2));
        Check.work(x, "a".repeat(32));
        x.join();
        CHECK.due("of all that came", 2, x.count(2));
    }

    private static void wrongLights() {
        UnderText x = new UnderText();
        x.half(0, 0, 0);
        int[][] wrong = {{-1, 0, 0, 1}, {1, 0, 0, 1}, {0, -1, 0, 1}, {0, 2, 0, 1}, {0, 0, -1, 1}, {0, 0, 8, 1},
            {0, 0, 0, 0}, {0, 0, 0, 65536}, {0, 0, 0, -1}, {0, 0, 0, 65537}, {LEAST, 0, 0, 1}, {MOST, 0, 0, 1},
            {0, LEAST, 0, 1}, {0, MOST, 0, 1}, {0, 0, LEAST, 1}, {0, 0, MOST, 1}, {0, 0, 0, LEAST}, {0, 0, 0, MOST}};
        for (int[] w : wrong) {
            String args = "(" + w[0] + ", " + w[1] + ", " + w[2];
            CHECK.due("light" + args + ", " + w[3] + ")", -1, x.light(w[0], w[1], w[2], w[3]));
            if (w[3] == 1) {
                CHECK.due("list" + args + ")", -1, x.list(w[0], w[1], w[2]));
            }
        }
        CHECK.due("the list stays", 65535, x.list(0, 0, 0));
    }

    private static void listsOfAllSpots() {
        UnderText x = new UnderText();
        for (int h = 0; h < 8; h++) {
            x.half(2, 0, 0);
        }
        for (int i = 0; i < 128; i++) {
            x.light(i / 16, i / 8 % 2, i % 8, 256 + i);
        }
        for (int i = 0; i < 128; i++) {
            CHECK.due("list " + i, 256 + i, x.list(i / 16, i / 8 % 2, i % 8));
        }
    }

    /** In a WORK whose four LINES are a, b, c, d each HALF agrees with its own two lines alone. */
    private static void quarrelsOfEachLine() {
        UnderText x = new UnderText();
        Check.work(x, "aaaaaaaabbbbbbbbccccccccddddddddp");
        x.half(0, 0, 0);
        x.half(1, 0, 0);
        Check.see(x, 0, 0, "aaaaaaaa");
        Check.see(x, 0, 1, "cccccccc");
        Check.see(x, 1, 0, "bbbbbbbb");
        Check.see(x, 1, 1, "dddddddd");
        CHECK.due("upper as upper", 0, x.quarrels(0, 0, 0));
        CHECK.due("upper as lower", 16, x.quarrels(0, 1, 0));
        CHECK.due("lower as lower", 0, x.quarrels(1, 1, 0));
        CHECK.due("lower as upper", 16, x.quarrels(1, 0, 0));
        CHECK.due("upper one letter on", 2, x.quarrels(0, 0, 1));
        CHECK.due("lower one letter on", 2, x.quarrels(1, 1, 1));
        x.half(2, 0, 0);
        CHECK.due("nothing was seen", 0, x.quarrels(2, 0, 1));
        x.light(2, 1, 7, 0xffff & ~Check.bit('p'));
        CHECK.due("the last letter", 1, x.quarrels(2, 1, 1));
        CHECK.due("the last but one", 0, x.quarrels(2, 1, 0));
    }

    private static void quarrelsWhateverTheHalfIs() {
        UnderText x = new UnderText();
        Check.work(x, "ab".repeat(16));
        for (int part = 0; part < 3; part++) {
            x.half(part, 0, 0);
            x.light(part, 0, 0, 2);
            CHECK.due("as upper, part " + part, 1, x.quarrels(part, 0, 0));
            CHECK.due("as lower, part " + part, 1, x.quarrels(part, 1, 0));
        }
        x.join();
        x.light(0, 0, 1, 1);
        CHECK.due("of the lists as they are now", 2, x.quarrels(0, 0, 0));
        Check.work(x, "b".repeat(32));
        CHECK.due("of the work as it is now", 1, x.quarrels(0, 0, 0));
    }

    private static void wrongQuarrels() {
        UnderText x = new UnderText();
        x.half(0, 0, 0);
        Check.work(x, "a".repeat(31));
        CHECK.due("31 letters have no place", -1, x.quarrels(0, 0, 0));
        Check.work(x, "a".repeat(32));
        CHECK.due("32 letters have one", 0, x.quarrels(0, 0, 0));
        CHECK.due("but no second", -1, x.quarrels(0, 0, 1));
        Check.work(x, "a".repeat(160));
        CHECK.due("place 128", 0, x.quarrels(0, 1, 128));
        int[][] wrong = {{0, 0, 129}, {0, 0, -1}, {0, 2, 0}, {0, -1, 0}, {1, 0, 0}, {-1, 0, 0}, {0, 0, LEAST},
            {0, 0, MOST}, {0, LEAST, 0}, {0, MOST, 0}, {LEAST, 0, 0}, {MOST, 0, 0}};
        for (int[] w : wrong) {
            CHECK.due("quarrels(" + w[0] + ", " + w[1] + ", " + w[2] + ")", -1, x.quarrels(w[0], w[1], w[2]));
        }
    }
}
