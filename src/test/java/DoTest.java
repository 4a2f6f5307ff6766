/** Promises 44 to 49: what a jar keeps, FEWEST and CHEAPEST jars, the SHELF and PIECED sounds. */
public final class DoTest {
    private DoTest() {
    }

    public static void main(String[] args) {
        keeps();
        fewest();
        cheapest();
        shelf();
        pieced();
        Check.finish();
    }

    private static final String JARS = "sound s abcdefgh;sound t ab;sound u abcdefghijklmnop;"
            + "jar a size 5 leaks 2 costs 4;jar b size 3 leaks 0 costs 2;jar c size 5 leaks 9 costs 4;"
            + "jar d size 2 leaks 1;jar e size 3 leaks 4 costs 2;fill a of t from 1 on 5;";

    private static void keeps() {
        EchoJars x = Texts.opened(JARS);
        int[] due = {5, 5, 4, 4, 3, 3, 2, 2, 1, 1, 0, 0};
        for (int days = 0; days < due.length; days++) {
            Check.fine("keeps for " + days, x, x.keeps(0, days), due[days]);
        }
        Check.fine("never leaks", x, x.keeps(1, 999), 3);
        Check.fine("empty", x, x.keeps(3, 1), 1);
        Check.fine("long", x, x.keeps(3, 999), 0);
        Check.refused("1000", x, x.keeps(0, 1000), 5);
        Check.refused("-1", x, x.keeps(0, -1), 5);
        Check.refused("jar 5", x, x.keeps(5, -1), 2);
        Check.refused("jar -1", x, x.keeps(-1, 0), 2);
    }

    private static void fewest() {
        EchoJars x = Texts.opened(JARS);
        Check.fine("eight of 5 and 5", x, x.fewest(0, 0), 2);
        Check.fine("two", x, x.fewest(1, 0), 1);
        Check.fine("sixteen of 5 5 3 3", x, x.fewest(2, 0), 4);
        Check.fine("eight of 5 3", x, x.fewest(0, 2), 2);
        Check.fine("eight of 5 3 of 4 days", x, x.fewest(0, 4), 2);
        Check.refused("sixteen of 4 3 5 0 3", x, x.fewest(2, 3), 9);
        Check.fine("eight of 4 3 .. of 9 days", x, x.fewest(0, 9), 3);
        Check.refused("eight of 3", x, x.fewest(0, 200), 9);
        Check.fine("two of 3", x, x.fewest(1, 999), 1);
        Check.refused("1000", x, x.fewest(0, 1000), 5);
        Check.refused("-1", x, x.fewest(0, -1), 5);
        Check.refused("sound 3", x, x.fewest(3, -1), 2);
        Check.refused("sound -1", x, x.fewest(-1, 0), 2);
        x = Texts.opened("sound s abcdef;jar a size 2 leaks 1;jar b size 2 leaks 0;jar c size 2 leaks 0 costs 1;");
        Check.fine("all jars", x, x.fewest(0, 0), 3);
        Check.fine("all jars cost", x, x.cheapest(0, 0, 0), 1);
        Check.fine("the set of all", x, x.cheapest(0, 0, 1), 7);
        Check.refused("one letter less", x, x.fewest(0, 1), 9);
        x = Texts.opened("sound s a;");
        Check.refused("no jars", x, x.fewest(0, 0), 9);
    }

    private static void cheapest() {
        EchoJars x = Texts.opened(JARS);
        // eight: d is for nothing: a b .. 6, b c 6, b d e 4 of 8 letters
        Check.fine("cost", x, x.cheapest(0, 0, 0), 4);
        Check.fine("set", x, x.cheapest(0, 0, 1), 2 | 8 | 16);
        Check.fine("two by d", x, x.cheapest(1, 0, 0), 0);
        Check.fine("by d alone", x, x.cheapest(1, 0, 1), 8);
        Check.fine("a day later", x, x.cheapest(1, 1, 0), 2);
        Check.fine("the least as a number", x, x.cheapest(1, 1, 1), 2);
        Check.fine("eight a day later", x, x.cheapest(0, 1, 0), 6);
        Check.fine("a and b", x, x.cheapest(0, 1, 1), 3);
        Check.refused("not enough", x, x.cheapest(0, 200, 1), 9);
        Check.refused("what 2", x, x.cheapest(0, 200, 2), 5);
        Check.refused("what -1", x, x.cheapest(0, 0, -1), 5);
        Check.refused("1000", x, x.cheapest(0, 1000, 0), 5);
        Check.refused("-1", x, x.cheapest(0, -1, 0), 5);
        Check.refused("sound 3", x, x.cheapest(3, -1, 0), 2);
        x = Texts.opened("sound s a;");
        Check.refused("no jars", x, x.cheapest(0, 0, 0), 9);
    }

    private static void order(EchoJars x, int best, int... jars) {
        Check.fine("shelf", x, x.shelf(), best);
        for (int k = 0; k < jars.length; k++) {
            Check.fine("shelfAt " + k, x, x.shelfAt(k), jars[k]);
        }
        Check.refused("behind it", x, x.shelfAt(jars.length), 8);
    }

    private static void shelf() {
        EchoJars x = Texts.opened("sound s abcd;jar a size 3 leaks 1;jar e size 3 leaks 1 worth 99;"
                + "jar b size 2 leaks 1 worth 2;jar c size 4 leaks 0 worth 9;jar d size 4 leaks 1 worth 5;"
                + "fill a of s from 0 on 0;fill b of s from 0 on 0;fill c of s from 0 on 0;fill d of s from 0 on 2;");
        // a 3 2 1 0, b 4 2 0 0, c 36 always, d 0 0 20 15: b a d c, 4 + 2 + 20 + 36
        order(x, 62, 2, 0, 4, 3);
        x.day(1);
        // a 2 1 0, b 2 0 0, c 36, d 0 20 15 10: a d c b, or b d a c, 2 + 20 + 36
        order(x, 58, 0, 4, 2, 3);
        x.day(9999);
        order(x, 36, 0, 2, 3, 4);
        Check.refused("k -1", x, x.shelfAt(-1), 8);
        Texts.shop(x, "jar a size 3 leaks 1;");
        Check.refused("all are EMPTY", x, x.shelf(), 8);
        Check.fine("the latest stays", x, x.shelfAt(3), 4);
        x = Texts.opened("sound s a;jar a size 1 leaks 0 worth 0;fill a of s from 0 on 9;");
        order(x, 0, 0);
    }

    private static void pieced() {
        EchoJars x = Texts.opened("sound o ringabell;sound p gable;sound q aeiou;sound r bcd;sound t xab;"
                + "jar a size 5 leaks 0;jar b size 4 leaks 0;jar c size 4 leaks 0;jar d size 5 leaks 0;"
                + "jar e size 3 leaks 0;jar f size 9 leaks 0;"
                + "fill a of o from 0 on 0;fill b of o from 3 on 0;fill c of p from 1 on 0;fill d of q from 0 on 1;"
                + "fill e of r from 0 on 2;");
        // on day 0: ringa gabe able
        Check.fine("ringa be l l", x, x.pieced(0, 0), 4);
        Check.fine("l by l is heard", x, x.pieced(0, 1), 1);
        Check.fine("gab le", x, x.pieced(1, 0), 2);
        Check.fine("ga by ble is not", x, x.pieced(1, 1), 0);
        Check.refused("no o and u", x, x.pieced(2, 0), 9);
        Check.refused("no x", x, x.pieced(4, 1), 9);
        x.day(1);
        Check.fine("one piece", x, x.pieced(2, 0), 1);
        Check.fine("no joins", x, x.pieced(2, 1), 0);
        x.day(2);
        Check.fine("bcd", x, x.pieced(3, 0), 1);
        Check.refused("what 2", x, x.pieced(0, 2), 5);
        Check.refused("what -1", x, x.pieced(0, -1), 5);
        Check.refused("sound 5", x, x.pieced(5, 2), 2);
        Check.refused("sound -1", x, x.pieced(-1, 0), 2);
        x = Texts.opened("sound s abea;jar a size 1 leaks 0;jar b size 1 leaks 0;jar e size 1 leaks 0;"
                + "fill a of s from 0 on 0;fill b of s from 1 on 0;fill e of s from 2 on 0;");
        Check.fine("letter by letter", x, x.pieced(0, 0), 4);
        Check.fine("two vowels are heard", x, x.pieced(0, 1), 1);
        for (char c = 'a'; c <= 'z'; c++) {
            x = Texts.opened("sound s " + c + "b;sound t e" + c + ";jar j size 1 leaks 0;jar k size 1 leaks 0;"
                    + "jar e size 1 leaks 0;fill j of s from 0 on 0;fill k of s from 1 on 0;fill e of t from 0 on 0;");
            boolean isVowel = "aeiou".indexOf(c) >= 0;
            Check.fine(c + " by b", x, x.pieced(0, 1), isVowel ? 0 : 1);
            Check.fine("e by " + c, x, x.pieced(1, 1), isVowel ? 1 : 0);
        }
        x = Texts.opened("sound s abcd;sound t abc;sound v cd;jar a size 2 leaks 0;jar b size 3 leaks 0;"
                + "jar c size 1 leaks 0;fill a of t from 0 on 0;fill b of v from 0 on 0;fill c of t from 0 on 0;");
        Check.fine("ab cd", x, x.pieced(0, 0), 2);
        Check.fine("b by c is heard", x, x.pieced(0, 1), 1);
        x = Texts.opened("sound s ababb;sound t a;sound u bab;sound v abb;jar a size 1 leaks 0;jar b size 3 leaks 0;"
                + "fill a of t from 0 on 0;fill b of u from 0 on 0;");
        Check.fine("a bab b", x, x.pieced(0, 0), 3);
        Check.fine("b by b", x, x.pieced(0, 1), 1);
    }
}
