/** Promises 1 to 4: a new object, feed, work, fault. */
public final class TapeAndWorkTest {
    private static final Check CHECK = new Check();
    private static final String LETTERS_16 = "abcdefghijklmnop";
    private static final String LETTERS_160 = LETTERS_16.repeat(10);

    public static void main(String[] args) {
        aNewObjectIsEmpty();
        feedTakesTwentyBytesUpTo400();
        feedPutsTheHighestByteFirst();
        workReadsLettersAndPassesBlanks();
        workEmptiesTheWholeTape();
        workRefusesWhatIsNotThere();
        faultsStandAtTheFirstWrongByte();
        aFaultLeavesWorkAndJoinedAsTheyWere();
        aNewWorkLeavesHalvesAndUndoesTheJoin();
        faultIsOfTheLatestWork();
        CHECK.end();
    }

    private static void aNewObjectIsEmpty() {
        UnderText x = new UnderText();
        for (int what = 0; what < 8; what++) {
            CHECK.due("new: count(" + what + ")", 0, x.count(what));
        }
        CHECK.due("new: fault(0)", 0, x.fault(0));
        CHECK.due("new: fault(1)", UnderText.NONE, x.fault(1));
        CHECK.due("new: work(1)", -2, x.work(1));
        CHECK.due("new: list(0, 0, 0)", -1, x.list(0, 0, 0));
        CHECK.due("new: leaf(0, 0)", -1, x.leaf(0, 0));
        CHECK.due("new: book(0, 0)", -1, x.book(0, 0));
        CHECK.due("new: led(0, 0, 0)", -1, x.led(0, 0, 0));
        CHECK.due("new: best(0, 0, 0)", -1, x.best(0, 0, 0));
        CHECK.due("new: join()", -1, x.join());
        CHECK.due("new: work(0)", 0, x.work(0));
        CHECK.due("NONE", -1, UnderText.NONE);
    }

    private static void feedTakesTwentyBytesUpTo400() {
        UnderText x = new UnderText();
        int blanks = Check.number("", 0);
        for (int i = 1; i <= 20; i++) {
            CHECK.due("feed " + i, 20 * i, x.feed(blanks, blanks, blanks, blanks, blanks));
        }
        CHECK.due("feed beyond 400", -1, x.feed(0, 0, 0, 0, 0));
        CHECK.due("work(401)", -2, x.work(401));
        CHECK.due("work(400): the refused bytes did not come", 0, x.work(400));
        CHECK.due("fault(0)", 0, x.fault(0));
        CHECK.due("feed on the empty tape", 20, x.feed(-1, -1, -1, -1, -1));
    }

    private static void feedPutsTheHighestByteFirst() {
        UnderText x = new UnderText();
        x.feed(0x61626364, 0x65666768, 0x696a6b6c, 0x6d6e6f70, 0x20200aff);
        CHECK.due("work(20)", -1, x.work(20));
        CHECK.due("a byte of 255", 1, x.fault(0));
        CHECK.due("at the last byte", 19, x.fault(1));
        x.feed(0x80616161, 0, 0, 0, 0);
        x.work(4);
        CHECK.due("a highest byte of 128", 0, x.fault(1));
        Check.work(x, LETTERS_16 + LETTERS_16);
        x.half(0, 0, 0);
        x.half(1, 0, 0);
        x.join();
        for (int spot = 0; spot < 8; spot++) {
            CHECK.due("upper front letter " + spot, spot, x.led(0, 0, spot));
            CHECK.due("lower front letter " + spot, 8 + spot, x.led(1, 0, spot));
            CHECK.due("upper back letter " + spot, spot, x.led(0, 1, spot));
            CHECK.due("lower back letter " + spot, 8 + spot, x.led(1, 1, spot));
        }
    }

    private static void workReadsLettersAndPassesBlanks() {
        UnderText x = new UnderText();
        CHECK.due("letters with blanks around", 3, Check.work(x, " a\n\n b  p\n"));
        CHECK.due("count(0)", 3, x.count(0));
        CHECK.due("blanks alone", 0, Check.work(x, " \n "));
        CHECK.due("fault of blanks", 0, x.fault(0));
        CHECK.due("160 letters", 160, Check.work(x, LETTERS_160));
        CHECK.due("160 letters and a blank behind", 160, Check.work(x, LETTERS_160 + " \n"));
        CHECK.due("160 letters with a blank behind each", 160, Check.work(x, "a ".repeat(160)));
    }

    private static void workEmptiesTheWholeTape() {
        UnderText x = new UnderText();
        Check.feed(x, "abcdefghijklmnopabcdefghij");
        CHECK.due("work(5) of 40 bytes", 5, x.work(5));
        CHECK.due("nothing is left", -2, x.work(1));
        Check.feed(x, "q");
        CHECK.due("work(1) with a fault", -1, x.work(1));
        CHECK.due("nothing is left behind a fault", -2, x.work(1));
        Check.feed(x, "abc");
        CHECK.due("work(0)", 0, x.work(0));
        CHECK.due("nothing is left behind work(0)", -2, x.work(1));
        CHECK.due("count(0)", 0, x.count(0));
    }

    private static void workRefusesWhatIsNotThere() {
        UnderText x = new UnderText();
        Check.work(x, "abc");
        Check.feed(x, "ab");
        CHECK.due("work(21)", -2, x.work(21));
        CHECK.due("work(-1)", -2, x.work(-1));
        CHECK.due("work(least)", -2, x.work(Integer.MIN_VALUE));
        CHECK.due("work(most)", -2, x.work(Integer.MAX_VALUE));
        CHECK.due("the WORK stays", 3, x.count(0));
        CHECK.due("the TAPE stays", 2, x.work(20));
    }

    private static void faultsStandAtTheFirstWrongByte() {
        expectFault("q", 1, 0);
        expectFault("a\n A", 1, 3);
        expectFault("ab`", 1, 2);
        expectFault("ab\tq", 1, 2);
        expectFault("\r", 1, 0);
        expectFault(LETTERS_160 + "q", 1, 160);
        expectFault(LETTERS_160 + "a", 2, 160);
        expectFault(LETTERS_160 + " \na", 2, 162);
        expectFault(" " + LETTERS_160 + "pq", 2, 161);
        expectFault(LETTERS_160 + "\0a", 1, 160);
        expectFault("z" + LETTERS_160 + "a", 1, 0);
    }

    private static void expectFault(String text, int fault, int place) {
        UnderText x = new UnderText();
        CHECK.due("work of " + text, -1, Check.work(x, text));
        CHECK.due("fault(0) of " + text, fault, x.fault(0));
        CHECK.due("fault(1) of " + text, place, x.fault(1));
        CHECK.due("fault(2)", -1, x.fault(2));
        CHECK.due("fault(-1)", -1, x.fault(-1));
        CHECK.due("count(0)", 0, x.count(0));
    }

    private static void aFaultLeavesWorkAndJoinedAsTheyWere() {
        UnderText x = new UnderText();
        Check.work(x, LETTERS_16 + LETTERS_16);
        x.half(1, 1, 1);
        x.join();
        Check.work(x, "p".repeat(40) + "!");
        CHECK.due("count(0)", 32, x.count(0));
        CHECK.due("count(3)", 1, x.count(3));
        CHECK.due("led: the letters of before", 8, x.led(0, 0, 0));
        x.work(1);
        CHECK.due("count(3) behind a -2", 1, x.count(3));
    }

    private static void aNewWorkLeavesHalvesAndUndoesTheJoin() {
        UnderText x = new UnderText();
        Check.work(x, "a".repeat(64));
        x.half(0, 0, 0);
        x.half(0, 1, 0);
        x.light(0, 0, 0, 2);
        x.join();
        CHECK.due("count(4)", 1, x.count(4));
        CHECK.due("the same text anew", 64, Check.work(x, "a".repeat(64)));
        CHECK.due("HALVES stay", 2, x.count(1));
        CHECK.due("LISTS stay", 2, x.list(0, 0, 0));
        for (int what = 3; what < 8; what++) {
            CHECK.due("nothing is joined: count(" + what + ")", 0, x.count(what));
        }
        CHECK.due("leaf(0, 2)", -1, x.leaf(0, 2));
        CHECK.due("book(0, 0)", -1, x.book(0, 0));
        CHECK.due("led(1, 0, 0)", -1, x.led(1, 0, 0));
    }

    private static void faultIsOfTheLatestWork() {
        UnderText x = new UnderText();
        Check.work(x, "ab?");
        x.work(1);
        CHECK.due("a -2 leaves the fault", 1, x.fault(0));
        CHECK.due("a -2 leaves its place", 2, x.fault(1));
        x.work(0);
        CHECK.due("a good work has none", 0, x.fault(0));
        CHECK.due("a good work has no place of it", -1, x.fault(1));
    }
}
