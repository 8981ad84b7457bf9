import java.util.Random;

/** Promise 4: faults of texts drawn by lot and spoilt, against the grammar of the document. */
final class FaultTest {
    private static final Due due = new Due("FaultTest");

    public static void main(String[] args) {
        Random lot = new Random(49);
        NinePortraits x = new NinePortraits();
        for (int i = 0; i < 60000; i++) {
            String court = Texts.court(lot);
            String law = Texts.law(lot);
            if (i % 4 != 0) {
                court = Texts.spoilt(court, "sbpfdwyak;;0123456789 x", lot);
                law = Texts.spoilt(law, "fwysamm:;?|&!()[]=<>+-*/0123456789  x!(![", lot);
            }
            check(x, court);
            check(x, law);
        }
        due.finish();
    }

    private static void check(NinePortraits x, String text) {
        x.end(0);
        Due.feed(x, text);
        due.is("fault(0) of <" + text + ">", x.fault(0), Grammar.courtFault(text));
        due.is("fault(1) of <" + text + ">", x.fault(1), Grammar.lawFault(text));
    }
}
