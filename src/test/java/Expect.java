/** Counts the answers that are not as due. */
final class Expect {
    private int asked = 0;
    private int wrong = 0;
    private String sentence = "";

    /** What the answers asked from here on are due by: words of the document. */
    void says(String words) {
        sentence = "\"" + words + "\": ";
    }

    void same(String call, long got, long due) {
        asked++;
        if (got != due) {
            wrong++;
        }
        if (got != due && wrong <= 50) {
            System.out.println(sentence + call + " answered " + got + ", due is " + due);
        }
    }

    void yes(String call, boolean got) {
        same(call, got ? 1 : 0, 1);
    }

    /** A call that answers a boolean, refused for a reason. */
    void denied(String call, StairShop shop, boolean got, int why) {
        same(call, got ? 1 : 0, 0);
        same(call + ", trouble()", shop.trouble(), why);
    }

    /** A call that answers a boolean and is not refused. */
    void granted(String call, StairShop shop, boolean got) {
        same(call, got ? 1 : 0, 1);
        same(call + ", trouble()", shop.trouble(), 0);
    }

    /** A call that answers a number and is not refused. */
    void given(String call, StairShop shop, int got, int due) {
        same(call, got, due);
        same(call + ", trouble()", shop.trouble(), 0);
    }

    /** A call that answers a number, refused for a reason. */
    void refused(String call, StairShop shop, int got, int why) {
        same(call, got, StairShop.NONE);
        same(call + ", trouble()", shop.trouble(), why);
    }

    void end(String test) {
        System.out.println(test + ": " + asked + " answers, " + wrong + " not as due");
        if (wrong > 0 || asked == 0) {
            System.exit(1);
        }
    }
}
