/** Counts the answers of one test that are not as due, and feeds texts. */
final class Due {
    private final String name;
    private int asked;
    private int wrong;

    Due(String name) {
        this.name = name;
    }

    void is(String call, long got, long want) {
        asked++;
        if (got != want) {
            tellWrong(call, String.valueOf(got), String.valueOf(want));
        }
    }

    void is(String call, boolean got, boolean want) {
        is(call, got ? 1 : 0, want ? 1 : 0);
    }

    void is(String call, String got, String want) {
        asked++;
        if (!got.equals(want)) {
            tellWrong(call, got, want);
        }
    }

    private void tellWrong(String call, String got, String want) {
        wrong++;
        if (wrong <= 40) {
            System.out.println(call + " answered " + got + ", due is " + want);
        }
    }

    void none(String call, long got) {
        is(call, got, -1);
    }

    void hidden(String call, long got) {
        is(call, got, -1000000);
    }

    void refusesBride(NinePortraits x, int bride, int what) {
        boolean thrown = false;
        try {
            x.bride(bride, what);
        } catch (java.util.NoSuchElementException e) {
            thrown = e.getClass() == java.util.NoSuchElementException.class;
        }
        is("bride(" + bride + ", " + what + ") throws", thrown, true);
    }

    int wrong() {
        return wrong;
    }

    void finish() {
        System.out.println(name + ": " + (asked - wrong) + " of " + asked + " answers as due");
        if (wrong != 0) {
            System.exit(1);
        }
    }

    /** Feeds a text; answers what the last feed answered. */
    static int feed(NinePortraits x, String text) {
        int answer = x.count(3);
        for (int from = 0; from < text.length(); from += 20) {
            int[] words = words(text, from);
            answer = x.feed(words[0], words[1], words[2], words[3], words[4]);
        }
        return answer;
    }

    static int[] words(String text, int from) {
        int[] words = new int[5];
        for (int i = 0; i < 20 && from + i < text.length(); i++) {
            words[i / 4] |= (text.charAt(from + i) & 255) << 24 - 8 * (i % 4);
        }
        return words;
    }

    static NinePortraits court(String text) {
        NinePortraits x = new NinePortraits();
        feed(x, text);
        if (x.text(0) < 0) {
            throw new IllegalStateException("no court: " + text);
        }
        return x;
    }

    /** Takes a law as text and lets it hold. */
    static void law(NinePortraits x, String text) {
        feed(x, text);
        int law = x.text(1);
        if (law < 0 || !x.law(law)) {
            throw new IllegalStateException("no law: " + text);
        }
    }

    /** All that acts change, as one text. */
    static String all(NinePortraits x) {
        StringBuilder told = new StringBuilder();
        for (int what = 5; what <= 7; what++) {
            told.append(x.count(what)).append(' ');
        }
        told.append(x.rule(0));
        for (int bride = 0; bride < x.count(0); bride++) {
            told.append(" b").append(x.bride(bride, 3)).append(x.bride(bride, 4)).append(x.bride(bride, 5));
        }
        for (int painter = 0; painter < x.count(1); painter++) {
            told.append(" p").append(x.painter(painter, 2));
        }
        for (int i = 0; i < x.count(7); i++) {
            for (int what = 0; what < 4; what++) {
                told.append(' ').append(x.portrait(i, what));
            }
        }
        return told.toString();
    }
}
