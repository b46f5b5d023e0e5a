import java.math.BigInteger;
import java.util.regex.Matcher;
import java.util.regex.Pattern;

/**
 * A second reckoning of a law's first FAULT, from a pattern of the grammar: a prefix goes on to a LAW
 * where the matcher ran into its end.
 */
final class TextOracle {
    private static final BigInteger MOST = BigInteger.valueOf(9999);
    private static final String B = " *";
    private static final String NAME = "(?:riser|going|narrow|head|wide|count|number|kind)(?![a-z])(?:" + B + "')?";
    private static final String PART = "(?:[0-9]++(?:" + B + "\\*" + B + NAME + ")?|" + NAME + ")";
    private static final String SUM = PART + "(?:" + B + "[+-]" + B + PART + ")*";
    private static final String RELATION = SUM + B + "[<>]=" + B + SUM;
    private static final Pattern LAW = Pattern.compile(B + "(?:all|some)(?![a-z])" + B + RELATION
            + "(?:" + B + "and(?![a-z])" + B + RELATION + ")*" + B);
    private static final Pattern TOKEN = Pattern.compile("[a-z]+|[0-9]+|[<>]=|[-+*']| +|.", Pattern.DOTALL);

    int fault = 0;
    int place = -1;

    TextOracle(String text) {
        int form = LAW.matcher(text).matches() ? text.length() + 1 : formPlace(text);
        scan(text, form);
        if (fault == 0 && form <= text.length()) {
            fault = 1;
            place = form;
        }
    }

    private static boolean goesOn(String text) {
        Matcher m = LAW.matcher(text);
        return m.matches() || m.hitEnd();
    }

    private static boolean letter(String text, int at) {
        return at >= 0 && at < text.length() && text.charAt(at) >= 'a' && text.charAt(at) <= 'z';
    }

    private static int formPlace(String text) {
        int p = 0;
        while (p < text.length() && goesOn(text.substring(0, p + 1))) {
            p++;
        }
        boolean noWord = letter(text, p) || letter(text, p - 1) && !goesOn(text.substring(0, p) + " ");
        while (noWord && letter(text, p - 1)) {
            p--;
        }
        return p;
    }

    /** The first FAULT of a number or of a length left of the one of form. */
    private void scan(String text, int form) {
        int parts = 0;
        int rels = 0;
        String last = "";
        Matcher m = TOKEN.matcher(text);
        while (fault == 0 && m.find() && m.start() < form) {
            String token = m.group();
            boolean digits = Character.isDigit(token.charAt(0));
            boolean name = letter(token, 0) && !token.equals("all") && !token.equals("some") && !token.equals("and");
            if (digits && new BigInteger(token).compareTo(MOST) > 0) {
                fault = 2;
            } else if ((digits || name && !last.equals("*")) && ++parts > 8) {
                fault = 3;
            } else if (token.equals("and") && rels >= 4) {
                fault = 3;
            }
            place = fault == 0 ? -1 : m.start();
            if (token.endsWith("=")) {
                rels++;
            }
            if (token.endsWith("=") || token.equals("and")) {
                parts = 0;
            }
            last = token.isBlank() ? last : token;
        }
    }
}
