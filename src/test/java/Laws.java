/** Feeds texts of laws; characters 0 to 255. */
final class Laws {
    private Laws() {
    }

    static void feed(StairShop shop, String text) {
        for (int at = 0; at < text.length(); at += 20) {
            shop.feed(word(text, at), word(text, at + 4), word(text, at + 8), word(text, at + 12), word(text, at + 16));
        }
    }

    static int law(StairShop shop, String text) {
        feed(shop, text);
        return shop.law(text.length());
    }

    private static int word(String text, int at) {
        int word = 0;
        for (int i = at; i < at + 4; i++) {
            word = word << 8 | (i < text.length() ? text.charAt(i) & 255 : ' ');
        }
        return word;
    }
}
