/** Promises 12 to 18: the tape, laws and how they are broken. */
public final class LawTest {
    private static final Expect DUE = new Expect();

    public static void main(String[] args) {
        feed();
        law();
        places();
        longOnes();
        faultStays();
        repeal();
        may();
        names();
        brokenAll();
        brokenSome();
        about();
        DUE.end("LawTest");
    }

    private static void feed() {
        StairShop shop = new StairShop();
        for (int i = 1; i <= 6; i++) {
            DUE.same("feed", shop.feed(0x616c6c20, 0x313c3d31, 0x20202020, 0x20202020, 0x20202020), 20 * i);
        }
        DUE.same("more than 120", shop.feed(0, 0, 0, 0, 0), -1);
        DUE.same("none came, the highest byte is first", shop.law(8), 0);
        DUE.same("it is empty", shop.feed(0, 0, 0, 0, 0), 20);
    }

    private static void law() {
        StairShop shop = new StairShop();
        DUE.refused("n", shop, shop.law(-1), 1);
        DUE.refused("n", shop, shop.law(1), 1);
        Laws.feed(shop, "all 1<=1");
        DUE.refused("n", shop, shop.law(21), 1);
        DUE.same("the tape stays", shop.law(20), 0);
        for (int i = 1; i < 8; i++) {
            DUE.same("law " + i, Laws.law(shop, "some kind>=0"), i);
        }
        DUE.refused("the ninth", shop, Laws.law(shop, "some kind>=0"), 3);
        DUE.same("no fault", shop.fault(), 0);
        DUE.same("no place", shop.where(), -1);
        DUE.same("the tape is empty", shop.feed(0, 0, 0, 0, 0), 20);
        DUE.refused("2 ahead of 3", shop, shop.law(20), 2);
        DUE.same("place", shop.where(), 0);
        DUE.same("LAWS", shop.size(6), 8);
        String[] fine = {"all1<=1", "  all  1  <=  1  ", "all riser'+going'-narrow '>=head", "all 1<=5and 2>=1and1>=1",
            "all 0009999*wide>=00000000", "some 2 * riser + going - 3 * narrow' <= head + wide + count",
            "all 1+1+1+1+1+1+1+1<=1-1-1-1-1-1-1-1", "some number>=1 and number>=1and number>=1 and number'>=1"};
        for (String text : fine) {
            StairShop other = new StairShop();
            DUE.same(text, Laws.law(other, text), 0);
            DUE.same(text, other.trouble(), 0);
            DUE.same(text, other.fault(), 0);
        }
    }

    private static void wrong(String text, int fault, int place) {
        StairShop shop = new StairShop();
        DUE.refused(text, shop, Laws.law(shop, text), 2);
        DUE.same(text + ", fault()", shop.fault(), fault);
        DUE.same(text + ", where()", shop.where(), place);
        DUE.same(text + ", LAWS", shop.size(6), 0);
        DUE.same(text + ", the tape is empty", shop.feed(0, 0, 0, 0, 0), 20);
    }

    private static void places() {
        wrong("", 1, 0);
        wrong("   ", 1, 3);
        wrong("al", 1, 0);
        wrong("alll 1<=1", 1, 0);
        wrong("allriser<=1", 1, 0);
        wrong("ALL 1<=1", 1, 0);
        wrong("bll 1<=1", 1, 0);
        wrong("allz 1<=1", 1, 0);
        wrong("all{1<=1", 1, 3);
        wrong("all`1<=1", 1, 3);
        wrong("allX 1<=1", 1, 3);
        wrong("all ", 1, 4);
        wrong("all and", 1, 4);
        wrong("all some", 1, 4);
        wrong("all -1<=1", 1, 4);
        wrong("all 1", 1, 5);
        wrong("all 1  ", 1, 7);
        wrong("all 1 2<=1", 1, 6);
        wrong("all 1riser<=1", 1, 5);
        wrong("all 5and1<=1", 1, 5);
        wrong("all riser1<=1", 1, 9);
        wrong("all riser*2<=1", 1, 9);
        wrong("all riser''<=1", 1, 10);
        wrong("all 1'<=1", 1, 5);
        wrong("all 2*3<=1", 1, 6);
        wrong("all 2*99999<=1", 1, 6);
        wrong("all 2* ", 1, 7);
        wrong("all 2*rise<=1", 1, 6);
        wrong("all 1+<=1", 1, 6);
        wrong("all 1++1<=1", 1, 6);
        wrong("all 1<", 1, 6);
        wrong("all 1< =1", 1, 6);
        wrong("all 1=1", 1, 5);
        wrong("all 1<>1", 1, 6);
        wrong("all 1<=", 1, 7);
        wrong("all 1<=1<=1", 1, 8);
        wrong("all 1<=1 an", 1, 9);
        wrong("all 1<=1 andy", 1, 9);
        wrong("all 1<=1 and", 1, 12);
        wrong("all 1<=1 and all 1<=1", 1, 13);
        wrong("all 1<=1 and 1", 1, 14);
        wrong("all 1<=1,", 1, 8);
        wrong("all 1<=1\u0000", 1, 8);
        wrong("all\u00e11<=1", 1, 3);
        wrong("all\t1<=1", 1, 3);
        wrong("99999", 1, 0);
        wrong("all 10000<=1", 2, 4);
        wrong("all 1<=000010000", 2, 7);
        wrong("all 99999999999999999999*rise", 2, 4);
        wrong("all 4294967297<=1", 2, 4);
        wrong("all 1 99999", 1, 6);
    }

    private static void longOnes() {
        wrong("all 1+1+1+1+1+1+1+1+1<=1", 3, 20);
        wrong("all 1+1+1+1+1+1+1+1+ kind'<=1", 3, 21);
        wrong("all 1+1+1+1+1+1+1+1+kin<=1", 1, 20);
        wrong("all 1+1+1+1+1+1+1+1+<=1", 1, 20);
        wrong("all 1+1+1+1+1+1+1+1+10000<=1", 2, 20);
        wrong("all 1+1+1+1+1+1+1+1+1*1", 3, 20);
        wrong("all 1<=1-1-1-1-1-1-1-1-1", 3, 23);
        wrong("all 1<=1 and 1<=1 and 1<=1 and 1<=1 and", 3, 36);
        wrong("all 1<=1 and 1<=1 and 1<=1 and 1<=1 ande", 1, 36);
        wrong("all 1<=1 and 1<=1 and 1<=1 and 1<=1 1", 1, 36);
    }

    private static void faultStays() {
        StairShop shop = new StairShop();
        Laws.law(shop, "all 10000<=1");
        shop.first(5);
        DUE.same("another refusal", shop.where(), -1);
        DUE.same("fault stays", shop.fault(), 2);
        shop.law(9);
        DUE.same("refused by 1: fault stays", shop.fault(), 2);
        DUE.same("law", Laws.law(shop, "all 1<=1"), 0);
        DUE.same("fault goes", shop.fault(), 0);
    }

    private static void repeal() {
        StairShop shop = new StairShop();
        DUE.denied("none", shop, shop.repeal(), 4);
        Laws.law(shop, "all 1<=1");
        Laws.law(shop, "all 2<=1");
        DUE.same("broken", shop.may(), 1);
        DUE.yes("repeal", shop.repeal());
        DUE.same("kept", shop.may(), -2);
        DUE.same("LAWS", shop.size(6), 1);
        DUE.same("undo", shop.undo(), 1);
        DUE.same("broken", shop.may(), 1);
        DUE.yes("repeal", shop.repeal());
        DUE.yes("repeal", shop.repeal());
        DUE.denied("none", shop, shop.repeal(), 4);
    }

    private static void may() {
        StairShop shop = new StairShop();
        Laws.law(shop, "all riser<=200");
        Laws.law(shop, "all going>=221");
        Laws.law(shop, "all going>=250");
        DUE.same("may()", shop.may(), 1);
        shop.flight(0, 12, 2652);
        DUE.same("may()", shop.may(), 2);
        shop.flight(0, 12, 3000);
        DUE.same("may()", shop.may(), -2);
        shop.flight(0, 11, 3000);
        DUE.same("may()", shop.may(), 0);
    }

    /** The value of a SUM at TREAD 0: by how much it is more than 0, or less. */
    private static int value(StairShop shop, String sum) {
        return beyond(shop, sum + "<=0") - beyond(shop, sum + ">=0");
    }

    /** A some that no TREAD keeps is asked of TREAD 0. */
    private static int beyond(StairShop shop, String comparison) {
        int number = Laws.law(shop, "some " + comparison + " and 2<=1");
        int by = shop.broken(number, 2) == 0 ? shop.broken(number, 3) : 0;
        shop.undo();
        return by;
    }

    private static void names() {
        StairShop shop = new StairShop();
        shop.measures(2705, 800, 450, 77);
        shop.path(2);
        shop.flight(0, 1, 500);
        shop.flight(1, 1, 300);
        shop.turn(0, 1);
        shop.first(1);
        shop.beam(0, 530, 400);
        // T is 5, RISERS are 451 five times, then 450
        String[] names = {"riser", "going", "narrow", "head", "wide", "count", "number", "kind",
            "riser'", "going'", "narrow'", "head'", "wide'", "count'", "number'", "kind'"};
        int[] due = {451, 530, 500, -51, 800, 6, 1, 1, 451, 236, 41, 9999, 800, 6, 2, 3};
        for (int i = 0; i < names.length; i++) {
            DUE.same(names[i], value(shop, names[i]), due[i]);
            DUE.same("9999*" + names[i], value(shop, "9999*" + names[i]), 9999 * due[i]);
        }
        DUE.same("signs", value(shop, "7-2*going+3*wide-kind-kind"), 7 - 1060 + 2400 - 2);
        String eight = "9999*head'+9999*head'+9999*head'+9999*head'+9999*head'+9999*head'+9999*head'+9999*head'";
        DUE.same("great", value(shop, eight), 8 * 9999 * 9999);
    }

    private static void verdict(String text, StairShop shop, int i, int broken, int tread, int rel, int by) {
        DUE.same(text + ", broken", shop.broken(i, 0), broken);
        DUE.same(text + ", tread", shop.broken(i, 1), tread);
        DUE.same(text + ", rel", shop.broken(i, 2), rel);
        DUE.same(text + ", by", shop.broken(i, 3), by);
    }

    private static void check(String text, int treads, int broken, int tread, int rel, int by) {
        StairShop shop = new StairShop();
        shop.measures(2603, 900, 400, 60);
        shop.flight(0, treads, 2640);
        DUE.same(text, Laws.law(shop, text), 0);
        verdict(text, shop, 0, broken, tread, rel, by);
    }

    private static void brokenAll() {
        // RISERS are 201 three times, then 200
        check("all riser<=201", 12, 0, -1, -1, 0);
        check("all riser<=200", 12, 1, 0, 0, 1);
        check("all riser>=201", 12, 1, 3, 0, 1);
        check("all riser'>=201", 12, 1, 2, 0, 1);
        check("all riser-riser'<=0", 12, 1, 2, 0, 1);
        check("all number<=11", 12, 1, 11, 0, 1);
        check("all number'<=12", 12, 0, -1, -1, 0);
        check("all number<=11 and wide'<=900", 12, 0, -1, -1, 0);
        check("all number<=10 and riser>=500 and riser>=600", 12, 1, 0, 1, 299);
        check("all riser'>=9999", 1, 0, -1, -1, 0);
        check("all count'>=9999", 1, 0, -1, -1, 0);
        check("all count>=9999", 1, 1, 0, 0, 9997);
        StairShop shop = new StairShop();
        Laws.law(shop, "all 1<=1");
        DUE.refused("no such law", shop, shop.broken(1, 0), 4);
        DUE.refused("no such law", shop, shop.broken(-1, 0), 4);
        DUE.refused("4 ahead of 1", shop, shop.broken(1, 4), 4);
        DUE.refused("what", shop, shop.broken(0, 4), 1);
        DUE.refused("what", shop, shop.broken(0, -1), 1);
        DUE.same("fine", shop.broken(0, 0), 0);
        DUE.same("fine", shop.trouble(), 0);
    }

    private static void brokenSome() {
        check("some number>=12", 12, 0, -1, -1, 0);
        check("some number>=13", 12, 1, 0, 0, 12);
        check("some number'>=13", 12, 1, 0, 0, 11);
        check("some number>=2 and number<=1", 12, 1, 0, 0, 1);
        check("some number<=1 and number>=2", 12, 1, 0, 1, 1);
        check("some number'>=0", 1, 1, 0, 0, 1);
        check("some 1<=1 and wide'>=2", 1, 1, 0, 0, 1);
        check("some number>=0", 1, 0, -1, -1, 0);
        check("some kind'<=0", 2, 0, -1, -1, 0);
    }

    private static void about() {
        StairShop shop = new StairShop();
        Laws.law(shop, "all riser<=1");
        Laws.law(shop, "some 2*riser+going-3<=count' and 1>=2+3 and 1<=1 and kind>=1");
        int[][] due = {{0, 1, 2, 0}, {1, 4, 11, 1}};
        for (int i = 0; i < 2; i++) {
            for (int what = 0; what < 4; what++) {
                DUE.same("about(" + i + ", " + what + ")", shop.about(i, what), due[i][what]);
            }
        }
        DUE.refused("no such law", shop, shop.about(2, 0), 4);
        DUE.refused("no such law", shop, shop.about(-1, 0), 4);
        DUE.refused("4 ahead of 1", shop, shop.about(2, 9), 4);
        DUE.refused("what", shop, shop.about(0, 4), 1);
        DUE.refused("what", shop, shop.about(0, -1), 1);
        DUE.same("fine", shop.about(0, 1), 1);
        DUE.same("fine", shop.trouble(), 0);
    }
}
