import java.nio.charset.StandardCharsets;

/** Counts answers that are not the ones due, and feeds texts. */
final class Check {
    private int wrong = 0;
    private int asked = 0;
    private String sentence = "";

    /** The sentence of the document that the next answers are due by. */
    void sentence(String words) {
        sentence = "[" + words + "] ";
    }

    void due(String what, long got, long want) {
        asked++;
        if (got != want) {
            wrong++;
            if (wrong <= 50) {
                System.out.println(sentence + what + " answered " + got + ", due is " + want);
            }
        }
    }

    void due(String what, boolean got, boolean want) {
        due(what, got ? 1 : 0, want ? 1 : 0);
    }

    boolean anyWrong() {
        return wrong != 0;
    }

    void close(String name) {
        System.out.println(name + ": " + asked + " answers, " + wrong + " wrong");
        if (wrong != 0) {
            System.exit(1);
        }
    }

    /** The five numbers of each feed that a text needs, blanks behind its end. */
    static int[][] feeds(String text) {
        byte[] bytes = text.getBytes(StandardCharsets.ISO_8859_1);
        int[][] feeds = new int[(bytes.length + 19) / 20][5];
        for (int i = 0; i < feeds.length * 20; i++) {
            int value = i < bytes.length ? bytes[i] & 255 : 32;
            feeds[i / 20][i % 20 / 4] |= value << (24 - 8 * (i % 4));
        }
        return feeds;
    }

    /** The text of an object becomes this one. */
    static void feed(FirstIn x, String text) {
        x.end(0);
        for (int[] f : feeds(text)) {
            x.feed(f[0], f[1], f[2], f[3], f[4]);
        }
        x.end(text.length());
    }

    static FirstIn court(String text) {
        FirstIn x = new FirstIn();
        feed(x, text);
        if (x.court() == FirstIn.NONE) {
            throw new IllegalStateException("a court was expected of: " + text);
        }
        return x;
    }
}
