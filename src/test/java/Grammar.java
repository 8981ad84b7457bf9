import java.util.LinkedHashSet;
import java.util.Set;

/**
 * The fault of a law by the words of the document alone: all ways in which the text could go on are
 * kept side by side, as stacks of what is still to come; the fault is where none is left.
 * A stack is a text of pairs: a symbol and how many of ( [ ! it stands within.
 */
final class Grammar {
    private Grammar() {
    }

    static int lawFault(String text) {
        Set<String> stacks = new LinkedHashSet<>();
        stacks.add("L0");
        for (int i = 0; i < text.length(); i++) {
            Set<String> after = new LinkedHashSet<>();
            for (String stack : stacks) {
                step(stack, text.charAt(i), after);
            }
            if (after.isEmpty()) {
                return i;
            }
            stacks = after;
        }
        for (String stack : stacks) {
            if (canEnd(stack)) {
                return -1;
            }
        }
        return text.length();
    }

    private static boolean canEnd(String stack) {
        for (int i = 0; i < stack.length(); i += 2) {
            if ("ltcusxn".indexOf(stack.charAt(i)) < 0) {
                return false;
            }
        }
        return true;
    }

    private static void step(String stack, char sign, Set<String> after) {
        if (sign == ' ') {
            after.add(stack.startsWith("n") ? stack.substring(2) : stack);
            return;
        }
        if (stack.isEmpty()) {
            return;
        }
        char symbol = stack.charAt(0);
        char within = stack.charAt(1);
        String rest = stack.substring(2);
        if (symbol == '\'') {
            if (within == sign) {
                after.add(rest);
            }
            return;
        }
        for (String way : ways(symbol, within)) {
            if (way.startsWith("#")) {
                if (sign >= '0' && sign <= '9') {
                    after.add(way.substring(2) + rest);
                }
            } else {
                step(way + rest, sign, after);
            }
        }
    }

    /** What a symbol may be; 'x is the sign x, # a digit, small letters are tails that may be empty. */
    private static String[] ways(char symbol, char w) {
        String deeper = w < '6' ? String.valueOf((char) (w + 1)) : null;
        switch (symbol) {
            case 'L':
                return new String[] {"C" + w + "l" + w};
            case 'l':
                return new String[] {"", "';C" + w + "l" + w};
            case 'C':
                return new String[] {"'y':S" + w, "'y':O" + w + "'?S" + w};
            case 'O':
                return new String[] {"T" + w + "t" + w};
            case 't':
                return new String[] {"", "'|T" + w + "t" + w};
            case 'T':
                return new String[] {"U" + w + "u" + w};
            case 'u':
                return new String[] {"", "'&U" + w + "u" + w};
            case 'U': {
                String compared = "S" + w + "R" + w + "S" + w;
                return deeper == null ? new String[] {compared}
                    : new String[] {"'!U" + deeper, "'(O" + deeper + "')", compared};
            }
            case 'R':
                return new String[] {"'=", "'<", "'>"};
            case 'S':
                return new String[] {"X" + w + "s" + w};
            case 's':
                return new String[] {"", "'+X" + w + "s" + w, "'-X" + w + "s" + w};
            case 'X':
                return new String[] {"A" + w + "x" + w};
            case 'x':
                return new String[] {"", "'*A" + w + "x" + w, "'/A" + w + "x" + w};
            case 'A': {
                String[] plain = {"##n3", "'f", "'w", "'y", "'s", "'a", "'m"};
                if (deeper == null) {
                    return plain;
                }
                String[] all = java.util.Arrays.copyOf(plain, plain.length + 1);
                all[plain.length] = "'[S" + deeper + "']";
                return all;
            }
            default:
                return w == '1' ? new String[] {"", "##"} : new String[] {"", "##n" + (char) (w - 1)};
        }
    }

    /** The fault of a court, sign by sign. */
    static int courtFault(String text) {
        int rules = 0;
        int brides = 0;
        int painters = 0;
        String items = "";
        String bounds = "";
        // c a clause is due, i items or ; are due, 0 1 2 so many digits of a number stand
        char due = 'c';
        int item = 0;
        String number = "";
        for (int i = 0; i <= text.length(); i++) {
            char sign = i < text.length() ? text.charAt(i) : 0;
            boolean digit = sign >= '0' && sign <= '9';
            if (due == '1' || due == '2') {
                if (digit && due == '2') {
                    return i;
                }
                if (digit) {
                    number += sign;
                    due = '2';
                    continue;
                }
                int bound = bounds.charAt(item);
                if (Integer.parseInt(number) > bound) {
                    return i - 1;
                }
                items = items.substring(0, item) + "_" + items.substring(item + 1);
                due = 'i';
            }
            if (i == text.length()) {
                return due == 'i' && brides > 0 && painters > 0 ? -1 : i;
            }
            if (sign == ' ') {
                continue;
            }
            if (due == '0') {
                if (!digit) {
                    return i;
                }
                number = "" + sign;
                due = '1';
            } else if (due == 'i') {
                item = sign == '_' ? -1 : items.indexOf(sign);
                if (sign == ';') {
                    due = 'c';
                } else if (item < 0) {
                    return i;
                } else {
                    due = '0';
                }
            } else {
                if (sign == 's' && ++rules <= 1) {
                    items = "pfd";
                    bounds = "\u0063\t\t";
                } else if (sign == 'b' && ++brides <= 6) {
                    items = "fdwy";
                    bounds = "\t\u0063\t\t";
                } else if (sign == 'p' && ++painters <= 5) {
                    items = "sfak";
                    bounds = "\t\u001e\t\u0003";
                } else {
                    return i;
                }
                due = 'i';
            }
        }
        return text.length();
    }
}
