/** What all tests share: a tally of wrong answers, and ways to feed texts. */
final class Check {
    private int wrong = 0;
    private int seen = 0;
    private String sentence = "";

    /** The promise and the words of the document that the answers from here on are about. */
    void about(String words) {
        sentence = "[" + words + "] ";
    }

    void due(String call, long want, long got) {
        seen++;
        if (got != want) {
            wrong++;
            System.out.println(sentence + call + " answered " + got + ", due is " + want);
        }
    }

    void due(String call, boolean want, boolean got) {
        due(call, want ? 1L : 0L, got ? 1L : 0L);
    }

    int wrongSoFar() {
        return wrong;
    }

    void end() {
        System.out.println(seen + " answers, " + wrong + " wrong");
        if (wrong != 0) {
            System.exit(1);
        }
    }

    static int number(String text, int from) {
        int number = 0;
        for (int i = from; i < from + 4; i++) {
            number = number << 8 | (i < text.length() ? text.charAt(i) & 255 : ' ');
        }
        return number;
    }

    /** Feeds a text, filled up with blanks to whole twenties. */
    static void feed(UnderText x, String text) {
        for (int i = 0; i < text.length(); i += 20) {
            x.feed(number(text, i), number(text, i + 4), number(text, i + 8), number(text, i + 12), number(text, i + 16));
        }
    }

    static int work(UnderText x, String text) {
        feed(x, text);
        return x.work(text.length());
    }

    /** Lights that leave just the text's letters on a face; a dot is a SPOT of which nothing was seen. */
    static void see(UnderText x, int half, int face, String line) {
        for (int spot = 0; spot < line.length(); spot++) {
            if (line.charAt(spot) != '.') {
                x.light(half, face, spot, bit(line.charAt(spot)));
            }
        }
    }

    static int bit(char letter) {
        return 1 << letter - 'a';
    }
}
