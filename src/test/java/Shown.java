import java.util.concurrent.Callable;

/** Compares answers with what README.md shows of them. */
final class Shown {
    private final Due due;

    Shown(String name) {
        due = new Due(name);
    }

    void is(int place, String call, Callable<?> asked, String want) {
        due.is("README.md:" + place + ": " + call, answer(asked), number(want));
    }

    static boolean agrees(Callable<?> asked, String want) {
        return answer(asked).equals(number(want));
    }

    private static String answer(Callable<?> asked) {
        try {
            return String.valueOf(asked.call());
        } catch (Exception e) {
            return "throws " + e.getClass().getSimpleName();
        }
    }

    private static String number(String want) {
        switch (want) {
            case "NONE":
                return String.valueOf(NinePortraits.NONE);
            case "HIDDEN":
                return String.valueOf(NinePortraits.HIDDEN);
            default:
                return want;
        }
    }

    void finish() {
        due.finish();
    }
}
