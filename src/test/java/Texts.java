import java.util.Random;

/** Courts and laws drawn by lot. */
final class Texts {
    private Texts() {
    }

    static String court(Random lot) {
        StringBuilder text = new StringBuilder();
        int brides = 1 + lot.nextInt(6);
        int painters = 1 + lot.nextInt(5);
        boolean rules = lot.nextInt(4) != 0;
        int left = brides + painters + (rules ? 1 : 0);
        while (left > 0) {
            int pick = lot.nextInt(left);
            left--;
            if (text.length() > 0) {
                text.append(';');
            }
            if (pick < brides) {
                brides--;
                clause(text, 'b', "fdwy", new int[] {9, 99, 9, 9}, lot);
            } else if (pick < brides + painters) {
                painters--;
                clause(text, 'p', "sfak", new int[] {9, lot.nextInt(4) == 0 ? 30 : 6, 9, 3}, lot);
            } else {
                rules = false;
                clause(text, 's', "pfd", new int[] {99, 9, 9}, lot);
            }
        }
        return text.toString();
    }

    private static void clause(StringBuilder text, char sign, String letters, int[] bounds, Random lot) {
        text.append(sign);
        int had = 0;
        for (int i = 0; i < letters.length(); i++) {
            int item = lot.nextInt(letters.length());
            if (lot.nextInt(8) != 0 && (had >> item & 1) == 0) {
                had |= 1 << item;
                blank(text, lot);
                text.append(letters.charAt(item));
                blank(text, lot);
                int value = lot.nextInt(bounds[item] + 1);
                if (value < 10 && lot.nextInt(10) == 0) {
                    text.append('0');
                }
                text.append(value);
            }
        }
        blank(text, lot);
    }

    private static void blank(StringBuilder text, Random lot) {
        if (lot.nextInt(20) == 0) {
            text.append(' ');
        }
    }

    /** A law of 240 bytes at most. */
    static String law(Random lot) {
        for (int i = 0; i < 1000; i++) {
            StringBuilder text = new StringBuilder();
            int clauses = 1 + lot.nextInt(4);
            for (int c = 0; c < clauses; c++) {
                text.append(c == 0 ? "" : ";").append("y:");
                if (lot.nextInt(3) != 0) {
                    condition(text, 0, lot);
                    text.append('?');
                }
                sum(text, 0, lot);
            }
            if (text.length() <= 240) {
                return text.toString();
            }
        }
        return "y:f";
    }

    private static void condition(StringBuilder text, int within, Random lot) {
        unit(text, within, lot);
        while (lot.nextInt(3) == 0) {
            text.append(lot.nextBoolean() ? '&' : '|');
            unit(text, within, lot);
        }
    }

    private static void unit(StringBuilder text, int within, Random lot) {
        blank(text, lot);
        int way = within < 6 ? lot.nextInt(5) : 4;
        if (way == 0) {
            text.append('!');
            unit(text, within + 1, lot);
        } else if (way == 1) {
            text.append('(');
            condition(text, within + 1, lot);
            text.append(')');
        } else {
            sum(text, within, lot);
            text.append("=<>".charAt(lot.nextInt(3)));
            sum(text, within, lot);
        }
        blank(text, lot);
    }

    private static void sum(StringBuilder text, int within, Random lot) {
        atom(text, within, lot);
        while (lot.nextInt(5) < 2) {
            text.append("+-*/".charAt(lot.nextInt(4)));
            atom(text, within, lot);
        }
    }

    private static void atom(StringBuilder text, int within, Random lot) {
        blank(text, lot);
        int way = lot.nextInt(8);
        if (way == 0 && within < 6) {
            text.append('[');
            sum(text, within + 1, lot);
            text.append(']');
        } else if (way < 3) {
            text.append(lot.nextInt(lot.nextInt(3) == 0 ? 10000 : 12));
        } else {
            text.append("ffwysam".charAt(lot.nextInt(7)));
        }
        blank(text, lot);
    }

    /** A text with one to three signs put in, left out or changed. */
    static String spoilt(String text, String signs, Random lot) {
        StringBuilder spoilt = new StringBuilder(text);
        for (int i = lot.nextInt(3); i >= 0; i--) {
            int place = lot.nextInt(spoilt.length() + 1);
            char sign = signs.charAt(lot.nextInt(signs.length()));
            int way = lot.nextInt(3);
            if (way == 0 || place == spoilt.length()) {
                spoilt.insert(place, sign);
            } else if (way == 1) {
                spoilt.deleteCharAt(place);
            } else {
                spoilt.setCharAt(place, sign);
            }
        }
        return spoilt.length() > 240 ? spoilt.substring(0, 240) : spoilt.toString();
    }
}
