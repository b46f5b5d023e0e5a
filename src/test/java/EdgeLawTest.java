/** The edges that the document names in Term IV and in promises 12 to 18, sentence by sentence. */
public final class EdgeLawTest {
    private static final int LEAST = Integer.MIN_VALUE;
    private static final int GREATEST = Integer.MAX_VALUE;
    private static final int BLANKS = 0x20202020;
    private static final String[] NAMES = {"riser", "going", "narrow", "head", "wide", "count", "number", "kind"};
    private static final Expect DUE = new Expect();

    public static void main(String[] args) {
        feedUpTo120();
        feedNoneComes();
        feedHighestFirst();
        lawOfTooFewBytes();
        lawOfAsManyAsThereAre();
        lawOfAllBytes();
        lawOfFewerBytes();
        lawOfNoBytes();
        lawsFull();
        blanksPartAll();
        blanksMeanNothingElse();
        theEnd();
        lettersThatStandTogether();
        bytesThatAreNoLetters();
        numberBounds();
        numberPlace();
        eightParts();
        fourRels();
        firstFromTheLeft();
        ofOnePlaceTheLeast();
        faultOfTheLatest();
        repealOfNone();
        mayOfNone();
        eachLawForItself();
        relHoldsAtAsMuch();
        brokenIndex();
        brokenWhat();
        allAtFirstAndLast();
        allWithoutANext();
        someAtFirstAndLast();
        someWithoutANext();
        namesOfTheNext();
        greatSums();
        aboutIndex();
        aboutLeastAndMost();
        DUE.end("EdgeLawTest");
    }

    private static int[] these(int... v) {
        return v;
    }

    /** A shop with a LAW of this text. */
    private static StairShop with(String text) {
        StairShop shop = new StairShop();
        DUE.given("law '" + text + "'", shop, Laws.law(shop, text), 0);
        DUE.same("law '" + text + "', fault()", shop.fault(), 0);
        DUE.same("law '" + text + "', where()", shop.where(), -1);
        return shop;
    }

    private static void fine(String text) {
        DUE.same("LAWS", with(text).size(6), 1);
    }

    private static void wrong(String text, int fault, int place) {
        StairShop shop = new StairShop();
        DUE.refused("law '" + text + "'", shop, Laws.law(shop, text), 2);
        DUE.same("law '" + text + "', fault()", shop.fault(), fault);
        DUE.same("law '" + text + "', where()", shop.where(), place);
        DUE.same("law '" + text + "', LAWS", shop.size(6), 0);
        DUE.same("law '" + text + "', acts", shop.size(10), 0);
    }

    private static void feedUpTo120() {
        DUE.says("Twenty bytes come behind THE TAPE: how many it has. NONE if there would be more than 120");
        StairShop shop = new StairShop();
        for (int i = 1; i <= 6; i++) {
            DUE.same("feed " + i, shop.feed(BLANKS, BLANKS, BLANKS, BLANKS, BLANKS), 20 * i);
        }
        DUE.same("feed 7", shop.feed(BLANKS, BLANKS, BLANKS, BLANKS, BLANKS), -1);
        DUE.same("feed 8", shop.feed(BLANKS, BLANKS, BLANKS, BLANKS, BLANKS), -1);
        shop.law(0);
        DUE.same("it is empty", shop.feed(BLANKS, BLANKS, BLANKS, BLANKS, BLANKS), 20);
    }

    private static void feedNoneComes() {
        DUE.says("NONE, and none comes");
        StairShop shop = new StairShop();
        Laws.feed(shop, "some 1>=1" + " ".repeat(111));
        DUE.same("one too many", shop.feed(-1, -1, -1, -1, -1), -1);
        DUE.same("as many as there were", shop.law(121), -1);
        DUE.same("by 1", shop.trouble(), 1);
        DUE.given("those that were there", shop, shop.law(120), 0);
        DUE.same("some", shop.about(0, 0), 1);
    }

    private static void feedHighestFirst() {
        DUE.says("of each number the highest first");
        StairShop shop = new StairShop();
        shop.feed(0x616c6c20, 0x313c3d32, 0x20616e64, 0x20333e3d, 0x31202020);
        DUE.given("all 1<=2 and 3>=1", shop, shop.law(20), 0);
        DUE.same("RELS", shop.about(0, 1), 2);
        // a byte above 127 is no letter, digit or blank: in each of the four places
        for (int place = 0; place < 4; place++) {
            shop.feed(BLANKS, BLANKS & ~(255 << 24 - 8 * place) | 0xe1 << 24 - 8 * place, BLANKS, BLANKS, BLANKS);
            DUE.refused("a great byte", shop, shop.law(20), 2);
            DUE.same("its place", shop.where(), 4 + place);
        }
    }

    private static void lawOfTooFewBytes() {
        DUE.says("1 n is below 0 or more than there are (THE TAPE stays)");
        StairShop shop = new StairShop();
        DUE.refused("law(1) of none", shop, shop.law(1), 1);
        Laws.feed(shop, "all 1<=1            some 1<=1");
        for (int n : these(-1, 41, 120, 121, LEAST, GREATEST)) {
            DUE.refused("law(" + n + ") of 40", shop, shop.law(n), 1);
            DUE.same("where()", shop.where(), -1);
            DUE.same("fault()", shop.fault(), 0);
        }
        DUE.same("acts", shop.size(10), 0);
        DUE.same("THE TAPE stays", shop.feed(BLANKS, BLANKS, BLANKS, BLANKS, BLANKS), 60);
        DUE.refused("and what is on it", shop, shop.law(60), 2);
        DUE.same("the second one's place", shop.where(), 20);
    }

    private static void lawOfAsManyAsThereAre() {
        DUE.says("The first n bytes of THE TAPE (it is empty then)");
        StairShop shop = new StairShop();
        Laws.feed(shop, "all 1<=1");
        DUE.given("law(20) of 20", shop, shop.law(20), 0);
        DUE.refused("law(1) of none", shop, shop.law(1), 1);
        DUE.same("feed()", shop.feed(0, 0, 0, 0, 0), 20);
        shop.law(20);
        DUE.same("empty behind a FAULT, too", shop.feed(0, 0, 0, 0, 0), 20);
    }

    private static void lawOfAllBytes() {
        DUE.says("LAWS .. of at most 120 bytes");
        String text = "all riser<=" + " ".repeat(104) + "count";
        DUE.same("120 bytes", text.length(), 120);
        StairShop shop = with(text);
        DUE.same("broken by", shop.broken(0, 3), 200 - 13);
        Laws.feed(shop, text);
        DUE.refused("law(121)", shop, shop.law(121), 1);
        DUE.refused("law(119)", shop, shop.law(119), 2);
        DUE.same("'coun' is no word", shop.where(), 115);
        wrong("all riser<=" + " ".repeat(109), 1, 120);
        wrong("all riser<=1" + " ".repeat(107) + "x", 1, 119);
        DUE.same("120 bytes", with("all riser<=" + "0".repeat(108) + "9").broken(0, 3), 191);
    }

    private static void lawOfFewerBytes() {
        DUE.says("The first n bytes of THE TAPE are a LAW");
        String text = "all riser<=1999";
        int[] by = {0, 0, 0, 0, 0, 0, 0, 0, 0, 0, 0, 0, 199, 181, 1, 0};
        for (int n = 0; n <= text.length(); n++) {
            StairShop shop = new StairShop();
            Laws.feed(shop, text);
            DUE.same("law(" + n + ")", shop.law(n), n < 12 ? -1 : 0);
            DUE.same("broken by", shop.broken(0, 3), n < 12 ? -1 : by[n]);
            DUE.same("the others are gone", shop.feed(0, 0, 0, 0, 0), 20);
        }
    }

    private static void lawOfNoBytes() {
        DUE.says("FORM: the first byte with which no LAW goes on (the end: its place ..)");
        wrong("", 1, 0);
        wrong(" ", 1, 1);
        wrong(" ".repeat(120), 1, 120);
        StairShop shop = new StairShop();
        Laws.feed(shop, "all 1<=1");
        DUE.refused("law(0) of 20", shop, shop.law(0), 2);
        DUE.same("where()", shop.where(), 0);
        DUE.same("empty", shop.feed(0, 0, 0, 0, 0), 20);
    }

    private static void lawsFull() {
        DUE.says("LAWS 8 .. a LAW behind the others: its number. NONE: 1; 2; 3");
        StairShop shop = new StairShop();
        for (int i = 0; i < 8; i++) {
            DUE.given("LAW " + i, shop, Laws.law(shop, "all count<=" + (20 - i)), i);
        }
        DUE.refused("the ninth", shop, Laws.law(shop, "all count<=1"), 3);
        DUE.same("where()", shop.where(), -1);
        DUE.same("fault()", shop.fault(), 0);
        DUE.same("LAWS", shop.size(6), 8);
        DUE.same("acts", shop.size(10), 8);
        DUE.same("none is broken", shop.may(), -2);
        DUE.same("THE TAPE is empty", shop.feed(0, 0, 0, 0, 0), 20);
        DUE.refused("1 ahead of 3", shop, shop.law(21), 1);
        DUE.refused("2 ahead of 3", shop, shop.law(20), 2);
        DUE.same("LAWS", shop.size(6), 8);
        DUE.granted("repeal", shop, shop.repeal());
        DUE.given("room for one", shop, Laws.law(shop, "all count<=12"), 7);
        DUE.same("it is broken", shop.may(), 7);
        DUE.refused("full again", shop, Laws.law(shop, "all count<=1"), 3);
    }

    private static void blanksPartAll() {
        DUE.says("blanks, 32, may part all");
        fine("all riser<=1");
        fine("all1<=1and1<=1");
        fine("some1>=1-1+1and1<=2*riser'");
        fine("   all   2   *   riser   '   +   1   -   going   <=   1   and   1   >=   1   ");
        wrong("allriser<=1", 1, 0);
        wrong("all 1<=riserand 1<=1", 1, 7);
        wrong("all 1<=1 andriser<=1", 1, 9);
    }

    private static void blanksMeanNothingElse() {
        DUE.says("blanks .. mean nothing else");
        wrong("a ll 1<=1", 1, 0);
        wrong("all ri ser<=1", 1, 4);
        wrong("all 1 0<=1", 1, 6);
        wrong("all 1< =1", 1, 6);
        wrong("all 1<=1 a nd 1<=1", 1, 9);
        for (char c : new char[] {'\t', '\n', '\r', 0, 31, 33, 160}) {
            wrong("all" + c + "1<=1", 1, 3);
            wrong("all 1<=1" + c, 1, 8);
        }
    }

    private static void theEnd() {
        DUE.says("the first byte with which no LAW goes on (the end: its place)");
        String text = "some 12 * kind ' - 3 >= number and 4 <= 5";
        // the places from which on the text may end
        String mayEnd = "some 12 * kind ' - 3 >= number";
        for (int n = 0; n <= text.length(); n++) {
            String part = text.substring(0, n);
            boolean whole = n == mayEnd.length() || n == mayEnd.length() + 1 || n == text.length();
            int word = n;
            while (word > 0 && Character.isLetter(part.charAt(word - 1))) {
                word--;
            }
            String last = part.substring(word);
            boolean cut = !last.isEmpty() && !java.util.List.of("some", "kind", "number", "and").contains(last);
            if (whole) {
                fine(part);
            } else {
                wrong(part, 1, cut ? word : n);
            }
        }
    }

    private static void lettersThatStandTogether() {
        DUE.says("small letters that stand together that are no word that may stand there: the first of them");
        String[] words = {"a", "al", "alll", "alla", "allz", "zll", "azl", "alz", "xall", "som", "somes", "zome",
            "somz", "and", "riser", "z"};
        for (String word : words) {
            wrong(word + " 1<=1", 1, 0);
            wrong("  " + word + " 1<=1", 1, 2);
        }
        for (String name : NAMES) {
            fine("all " + name + "<=1");
            wrong("all " + name.substring(1) + "<=1", 1, 4);
            wrong("all " + name.substring(0, name.length() - 1) + "<=1", 1, 4);
            wrong("all " + name + "s<=1", 1, 4);
            wrong("all a" + name + "<=1", 1, 4);
            wrong("all z" + name.substring(1) + "<=1", 1, 4);
            wrong("all " + name.substring(0, name.length() - 1) + "z<=1", 1, 4);
            wrong("all " + name + "z<=1", 1, 4);
            wrong("all 3*" + name + "x<=1", 1, 6);
            wrong("all 1<=1+" + name + name, 1, 9);
            wrong("all 1<=1 " + name, 1, 9);
        }
        wrong("all all", 1, 4);
        wrong("all and", 1, 4);
        wrong("all 1 and 1<=1", 1, 6);
        wrong("all 1<=1 all", 1, 9);
        wrong("all 1<=1 an 1<=1", 1, 9);
        wrong("all 1<=1 ands 1<=1", 1, 9);
        wrong("all 1<=1 znd 1<=1", 1, 9);
        wrong("all 1<=1 anz 1<=1", 1, 9);
        wrong("all 1<=1 and and", 1, 13);
    }

    private static void bytesThatAreNoLetters() {
        DUE.says("the first byte with which no LAW goes on");
        wrong("allA1<=1", 1, 3);
        wrong("all riserA<=1", 1, 9);
        wrong("all riser`<=1", 1, 9);
        wrong("all riser{<=1", 1, 9);
        wrong("all 1/<=1", 1, 5);
        wrong("all 1:<=1", 1, 5);
        wrong("all 1==1", 1, 5);
        wrong("all 1=<1", 1, 5);
        wrong("all 1<1", 1, 6);
        wrong("all 1>1", 1, 6);
        wrong("all 1<<=1", 1, 6);
        wrong("all 1<=<=1", 1, 7);
        wrong("all <=1", 1, 4);
        wrong("all +1<=1", 1, 4);
        wrong("all 1<=-1", 1, 7);
        wrong("all 1+-1<=1", 1, 6);
        wrong("all *riser<=1", 1, 4);
        wrong("all riser*2<=1", 1, 9);
        wrong("all 2**riser<=1", 1, 6);
        wrong("all 2*+1<=1", 1, 6);
        wrong("all 2*<=1", 1, 6);
        wrong("all 2*1<=1", 1, 6);
        wrong("all 1<=2*", 1, 9);
        wrong("all 1<=2* and 1<=1", 1, 10);
        wrong("all 2*riser*riser<=1", 1, 11);
        wrong("all 2riser<=1", 1, 5);
        wrong("all 2'<=1", 1, 5);
        wrong("all 'riser<=1", 1, 4);
        wrong("all riser''<=1", 1, 10);
        wrong("all riser<=1 1", 1, 13);
        wrong("all (1)<=1", 1, 4);
        wrong("\u00e1ll 1<=1", 1, 0);
    }

    private static void numberBounds() {
        DUE.says("NUMBER: digits, 0 .. 9,999");
        String[] fine = {"0", "9", "10", "999", "1000", "9998", "9999", "00000", "09999", "0000000000009999"};
        String[] wrong = {"10000", "10001", "99999", "010000", "2147483648", "4294967296", "18446744073709551616",
            "99999999999999999999999999"};
        for (String number : fine) {
            fine("all " + number + "<=1");
            fine("all 1<=" + number);
            fine("all 1<=1+" + number + "*riser");
        }
        for (String number : wrong) {
            wrong("all " + number + "<=1", 2, 4);
            wrong("all 1<=" + number, 2, 7);
            wrong("all 1<=1+" + number + "*riser", 2, 9);
        }
        DUE.same("9,999", with("all 9999<=0").broken(0, 3), 9999);
        DUE.same("0", with("all 0>=1").broken(0, 3), 1);
        DUE.same("0*head", with("all 0*head>=1").broken(0, 3), 1);
        DUE.same("00017", with("all 00017<=0").broken(0, 3), 17);
    }

    private static void numberPlace() {
        DUE.says("NUMBER: one above 9,999, at its first digit");
        wrong("all    10000<=1", 2, 7);
        wrong("all 1<=1 and 2*riser - 000010000", 2, 23);
        wrong("all 10000", 2, 4);
        wrong("all 10000x", 2, 4);
        wrong("all 1<=20000 and", 2, 7);
    }

    private static String ones(int parts, String op) {
        return ("1" + op).repeat(parts - 1) + "1";
    }

    private static void eightParts() {
        DUE.says("LONG: a SUM of more than eight PARTS, at the ninth one's first byte");
        for (String op : new String[] {"+", "-", " + ", "-  "}) {
            fine("all " + ones(8, op) + "<=1");
            fine("all 1<=" + ones(8, op));
            fine("all 1<=1 and 1>=" + ones(8, op));
            int ninth = 8 * (1 + op.length());
            wrong("all " + ones(9, op) + "<=1", 3, 4 + ninth);
            wrong("all 1<=" + ones(9, op), 3, 7 + ninth);
            wrong("all 1<=1 and 1>=" + ones(9, op), 3, 16 + ninth);
            wrong("all " + ones(10, op) + "<=1", 3, 4 + ninth);
        }
        fine("all " + ones(8, "+") + "<=" + ones(8, "-") + " and " + ones(8, "+") + "<=" + ones(8, "-"));
        fine("all " + ones(7, "+") + "+2*riser'<=1");
        wrong("all " + ones(8, "+") + "+2*riser'<=1", 3, 20);
        wrong("all " + ones(8, "+") + "+riser'<=1", 3, 20);
        wrong("all " + ones(8, "+") + "+1", 3, 20);
    }

    private static String rels(int rels) {
        return "all 1<=1" + " and 1<=1".repeat(rels - 1);
    }

    private static void fourRels() {
        DUE.says("LONG: more than four RELS, at the and behind the fourth");
        for (int rels = 1; rels <= 4; rels++) {
            fine(rels(rels));
        }
        wrong(rels(5), 3, 36);
        wrong(rels(6), 3, 36);
        wrong(rels(4) + " and", 3, 36);
        wrong(rels(4) + "and1", 3, 35);
        wrong(rels(4) + "   and x", 3, 38);
        wrong(rels(4) + " an", 1, 36);
        wrong(rels(4) + " ands", 1, 36);
        wrong(rels(4) + " 1<=1", 1, 36);
        wrong(rels(3) + " and", 1, 30);
    }

    private static void firstFromTheLeft() {
        DUE.says("The first from the left");
        wrong("all 10000<=x", 2, 4);
        wrong("all x<=10000", 1, 4);
        wrong("all 10000+1+1+1+1+1+1+1+1<=1", 2, 4);
        wrong("all " + ones(9, "+") + "+10000<=1", 3, 20);
        wrong("all " + ones(9, "+") + "x", 3, 20);
        wrong("all " + ones(8, "+") + "+1*10000", 3, 20);
        wrong("all " + ones(7, "+") + "+1*10000", 1, 20);
        wrong("all " + ones(7, "+") + "+10000+1", 2, 18);
        wrong("all " + ones(8, "+") + "x+1", 1, 19);
        wrong("all 1<=1 and 1<=1 and 1<=1 and 1<=10000 and", 2, 34);
        wrong("all 1<=1 and 1<=1 and 1<=1 and 1<=1 and 10000<=1", 3, 36);
    }

    private static void ofOnePlaceTheLeast() {
        DUE.says("of one place the least number");
        wrong("all " + ones(8, "+") + "+10000<=1", 2, 20);
        wrong("all " + ones(8, "+") + "+x<=1", 1, 20);
        wrong("all " + ones(8, "+") + "+and<=1", 1, 20);
        wrong("all " + ones(8, "+") + "+<=1", 1, 20);
        wrong("all " + ones(8, "+") + "+", 1, 20);
        wrong("all " + ones(8, "+") + "+9999<=1", 3, 20);
        wrong("all 2*10000<=1", 1, 6);
        wrong("all 1 10000", 1, 6);
        wrong("10000", 1, 0);
    }

    private static void faultOfTheLatest() {
        DUE.says("The FAULT of the latest law() that was not refused by 1; 0 without one");
        StairShop shop = new StairShop();
        DUE.same("new", shop.fault(), 0);
        String[] texts = {"x", "all 10000<=1", rels(5)};
        for (int fault = 1; fault <= 3; fault++) {
            Laws.law(shop, texts[fault - 1]);
            DUE.same("fault()", shop.fault(), fault);
            shop.law(-1);
            DUE.same("refused by 1", shop.fault(), fault);
            shop.law(1);
            DUE.same("refused by 1", shop.fault(), fault);
            shop.undo();
            DUE.same("asked again", shop.fault(), fault);
        }
        for (int i = 0; i < 8; i++) {
            Laws.law(shop, "all 1<=1");
            DUE.same("accepted", shop.fault(), 0);
        }
        Laws.law(shop, "x");
        DUE.same("2 ahead of 3", shop.fault(), 1);
        Laws.law(shop, "all 1<=1");
        DUE.same("refused by 3", shop.fault(), 0);
    }

    private static void repealOfNone() {
        DUE.says("The latest LAW goes: true; false (4)");
        StairShop shop = new StairShop();
        DUE.denied("none", shop, shop.repeal(), 4);
        DUE.same("acts", shop.size(10), 0);
        for (int i = 0; i < 8; i++) {
            Laws.law(shop, "all count<=" + i);
        }
        for (int i = 7; i >= 0; i--) {
            DUE.same("the latest, by", shop.broken(i, 3), 13 - i);
            DUE.granted("repeal", shop, shop.repeal());
            DUE.same("LAWS", shop.size(6), i);
            DUE.refused("it went", shop, shop.broken(i, 3), 4);
        }
        DUE.denied("none", shop, shop.repeal(), 4);
        DUE.same("LAWS", shop.size(6), 0);
        DUE.same("acts", shop.size(10), 16);
        DUE.same("may()", shop.may(), -2);
        DUE.given("from 0 on again", shop, Laws.law(shop, "all 1<=1"), 0);
    }

    private static void mayOfNone() {
        DUE.says("The first LAW that is BROKEN; -2 if none is");
        StairShop shop = new StairShop();
        DUE.same("no LAWS", shop.may(), -2);
        for (int i = 0; i < 8; i++) {
            Laws.law(shop, "all count<=" + (20 - i));
            DUE.same("none is", shop.may(), -2);
        }
        for (int i = 7; i >= 0; i--) {
            shop.flight(0, 19 - i, 2640);
            DUE.same("T + 1 is " + (20 - i), shop.may(), i == 7 ? -2 : i + 1);
        }
        shop.flight(0, 20, 2640);
        DUE.same("all are", shop.may(), 0);
    }

    private static void verdict(String text, int treads, int broken, int tread, int rel, int by) {
        StairShop shop = with(text);
        shop.measures(2603, 900, 400, 60);
        shop.flight(0, treads, 2640);
        String what = "'" + text + "', T " + treads;
        DUE.given(what + ", broken", shop, shop.broken(0, 0), broken);
        DUE.given(what + ", TREAD", shop, shop.broken(0, 1), tread);
        DUE.given(what + ", REL", shop, shop.broken(0, 2), rel);
        DUE.given(what + ", by", shop, shop.broken(0, 3), by);
        DUE.same(what + ", may()", shop.may(), broken == 1 ? 0 : -2);
    }

    private static void kept(String text, int treads) {
        verdict(text, treads, 0, -1, -1, 0);
    }

    private static void eachLawForItself() {
        DUE.says("of those that have a next one, if some NAME has '");
        StairShop shop = with("some number'<=number'-1 and number'<=1");
        DUE.given("behind one with '", shop, Laws.law(shop, "all number<=number-0 and number<=11"), 1);
        DUE.same("' of the first", shop.about(0, 3), 1);
        DUE.same("no ' of the second", shop.about(1, 3), 0);
        DUE.same("it is asked of the last TREAD, too", shop.broken(1, 1), 11);
        DUE.same("by", shop.broken(1, 3), 1);
        DUE.given("one more", shop, Laws.law(shop, "all count<=20"), 2);
        DUE.given("fewer RELS", shop, shop.about(2, 1), 1);
        DUE.given("fewer PARTS", shop, shop.about(2, 2), 2);
        DUE.same("TREAD of one that is not BROKEN, behind one that is", shop.broken(2, 1), -1);
        DUE.same("REL", shop.broken(2, 2), -1);
        DUE.same("by", shop.broken(2, 3), 0);
        DUE.same("BROKEN", shop.broken(0, 0), 1);
        DUE.same("not BROKEN", shop.broken(2, 0), 0);
    }

    private static void relHoldsAtAsMuch() {
        DUE.says("REL: <= or >= .. how much more (<=) the left SUM is, or less (>=)");
        kept("all count<=13", 12);
        verdict("all count<=12", 12, 1, 0, 0, 1);
        kept("all count>=13", 12);
        verdict("all count>=14", 12, 1, 0, 0, 1);
        kept("some count<=13", 12);
        verdict("some count<=12", 12, 1, 0, 0, 1);
        kept("some count>=13", 12);
        verdict("some count>=14", 12, 1, 0, 0, 1);
        kept("all 0<=0", 12);
        kept("all 0>=0", 12);
        verdict("all 1<=2-3", 12, 1, 0, 0, 2);
        verdict("all 1-3>=0", 12, 1, 0, 0, 2);
        kept("all 1-3<=0", 12);
    }

    private static void brokenIndex() {
        DUE.says("Of LAW i as the stair is .. NONE: 4");
        StairShop shop = new StairShop();
        DUE.refused("no LAWS", shop, shop.broken(0, 0), 4);
        for (int n = 1; n <= 8; n++) {
            Laws.law(shop, "all count<=" + n);
            for (int i : these(-1, n, LEAST, GREATEST)) {
                DUE.refused(n + " LAWS, broken(" + i + ", 0)", shop, shop.broken(i, 0), 4);
            }
            DUE.given("the first", shop, shop.broken(0, 3), 12);
            DUE.given("the last", shop, shop.broken(n - 1, 3), 13 - n);
        }
    }

    private static void brokenWhat() {
        DUE.says("what 0 .. 3 by how much. NONE: 4; 1");
        StairShop shop = with("all count<=10");
        for (int what : these(-1, 4, LEAST, GREATEST)) {
            DUE.refused("broken(0, " + what + ")", shop, shop.broken(0, what), 1);
            DUE.refused("4 ahead of 1", shop, shop.broken(1, what), 4);
        }
        int[] due = {1, 0, 0, 3};
        for (int what = 0; what < 4; what++) {
            DUE.given("broken(0, " + what + ")", shop, shop.broken(0, what), due[what]);
        }
        DUE.same("acts", shop.size(10), 1);
    }

    private static void allAtFirstAndLast() {
        DUE.says("all: the first TREAD for which one does not hold, and the first REL of it");
        verdict("all number>=2", 12, 1, 0, 0, 1);
        verdict("all number<=11", 12, 1, 11, 0, 1);
        kept("all number<=12", 12);
        verdict("all number<=5", 12, 1, 5, 0, 1);
        verdict("all number<=5 and number>=3", 12, 1, 0, 1, 2);
        verdict("all number<=5 and number<=4", 12, 1, 4, 1, 1);
        verdict("all number<=5 and number<=5", 12, 1, 5, 0, 1);
        verdict("all 1<=1 and 1<=1 and 1<=1 and number<=11", 12, 1, 11, 3, 1);
        verdict("all number<=0", 1, 1, 0, 0, 1);
        kept("all number<=1", 1);
    }

    private static void allWithoutANext() {
        DUE.says("all: for each TREAD (of those that have a next one, if some NAME has ')");
        kept("all number'<=0", 1);
        kept("all number<=0 and 0*kind'<=0", 1);
        kept("all wide'<=0", 1);
        kept("all count'<=0", 1);
        verdict("all number'<=0", 2, 1, 0, 0, 2);
        kept("all number'<=2", 2);
        verdict("all number'<=11", 12, 1, 10, 0, 1);
        kept("all number'<=12", 12);
        kept("all number<=11 and 1<=number'", 12);
        kept("all number<=11 and wide'<=900", 12);
        verdict("all number<=10 and wide'<=900", 12, 1, 10, 0, 1);
    }

    private static void someAtFirstAndLast() {
        DUE.says("some: TREAD 0, of the first of those it is asked of its first REL that doesn't hold");
        kept("some number<=1", 12);
        verdict("some number<=0", 12, 1, 0, 0, 1);
        kept("some number>=12", 12);
        verdict("some number>=13", 12, 1, 0, 0, 12);
        verdict("some number<=1 and number>=2", 12, 1, 0, 1, 1);
        verdict("some number>=2 and number<=1", 12, 1, 0, 0, 1);
        verdict("some 1<=1 and 1<=1 and 1<=1 and number>=99", 12, 1, 0, 3, 98);
        kept("some number>=12 and number<=12", 12);
        kept("some number<=1", 1);
        verdict("some number>=2", 1, 1, 0, 0, 1);
    }

    private static void someWithoutANext() {
        DUE.says("some: .. (none, if there are none of these) .. where there are none of these, REL 0, by 1");
        verdict("some number'>=0", 1, 1, 0, 0, 1);
        verdict("some 5<=1 and kind'>=0", 1, 1, 0, 0, 1);
        verdict("some 1<=1 and wide'>=0", 1, 1, 0, 0, 1);
        verdict("some 1<=1 and 0*count'>=9", 1, 1, 0, 0, 1);
        kept("some number'>=2", 2);
        verdict("some number'>=3", 2, 1, 0, 0, 1);
        kept("some number'>=12", 12);
        verdict("some number'>=13", 12, 1, 0, 0, 11);
        verdict("some number>=12 and number'>=1", 12, 1, 0, 0, 11);
        kept("some number>=11 and number'>=1", 12);
    }

    private static void namesOfTheNext() {
        DUE.says("riser (of a TREAD the RISER below it) .. number (of the TREAD, from 1 on) .. of the next TREAD");
        // RISERS: 201 three times, then 200
        verdict("all riser>=201", 12, 1, 3, 0, 1);
        verdict("all riser'>=201", 12, 1, 2, 0, 1);
        verdict("all riser<=riser'", 12, 1, 2, 0, 1);
        kept("all number'<=number+1 and number'>=number+1", 12);
        // with two TREADS the RISERS are 868, 868, 867: the last one is of no TREAD
        kept("all riser'>=868", 2);
        verdict("all head<=9998", 12, 1, 0, 0, 1);
        kept("all head<=9999", 12);
        verdict("all wide<=899", 12, 1, 0, 0, 1);
        verdict("all kind>=1", 12, 1, 0, 0, 1);
        kept("all count'<=13 and wide'>=900", 12);
    }

    private static void greatSums() {
        DUE.says("by how much");
        String more = "9999*head+".repeat(7) + "9999*head";
        verdict("all " + more + "<=0", 12, 1, 0, 0, 8 * 9999 * 9999);
        verdict("some 0>=" + more, 12, 1, 0, 0, 8 * 9999 * 9999);
        // as much as 120 bytes can tell
        verdict("all " + more + "<=0" + "-9999*head".repeat(3), 12, 1, 0, 0, 11 * 9999 * 9999);
        verdict("all 0" + "-9999*head".repeat(3) + ">=" + more, 12, 1, 0, 0, 11 * 9999 * 9999);
        StairShop shop = with("all 9999*head-9999<=9999*head-9999*head-9999*head-9999*head-9999*head");
        DUE.same("by", shop.broken(0, 3), 4 * 9999 * 9999 - 9999);
    }

    private static void aboutIndex() {
        DUE.says("Of LAW i: what 0 .. 3. NONE: 4; 1");
        StairShop shop = new StairShop();
        DUE.refused("no LAWS", shop, shop.about(0, 0), 4);
        for (int n = 1; n <= 8; n++) {
            Laws.law(shop, "all " + ones(n, "+") + "<=1");
            for (int i : these(-1, n, LEAST, GREATEST)) {
                DUE.refused(n + " LAWS, about(" + i + ", 2)", shop, shop.about(i, 2), 4);
            }
            DUE.given("the first", shop, shop.about(0, 2), 2);
            DUE.given("the last", shop, shop.about(n - 1, 2), n + 1);
        }
        for (int what : these(-1, 4, LEAST, GREATEST)) {
            DUE.refused("about(7, " + what + ")", shop, shop.about(7, what), 1);
            DUE.refused("4 ahead of 1", shop, shop.about(8, what), 4);
        }
    }

    private static void about(String text, int... due) {
        StairShop shop = with(text);
        for (int what = 0; what < 4; what++) {
            DUE.given("'" + text + "', about(0, " + what + ")", shop, shop.about(0, what), due[what]);
        }
    }

    private static void aboutLeastAndMost() {
        DUE.says("0 whether it is some (1), 1 RELS, 2 PARTS of all SUMS, 3 whether a NAME has ' (1)");
        about("all 1<=1", 0, 1, 2, 0);
        about("some 1<=1", 1, 1, 2, 0);
        String sums = ones(8, "+") + "<=" + ones(8, "-");
        about("all " + sums + "and" + sums + "and" + sums + "and1<=1", 0, 4, 50, 0);
        about("all riser'<=1", 0, 1, 2, 1);
        about("all 1<=1 and 1<=1 and 1<=1 and 1<=2*wide '", 0, 4, 8, 1);
        about("some 3*riser<=4*going-kind", 1, 1, 3, 0);
    }
}
