/** The edges that section 4 and promises 54 to 58 name of THIRD, SECOND, ANY TWO and MARKS: a sentence a method. */
public final class ThreeEdgesTest {
    private static final String SEVENTEEN = "abcdefghijklmnopq";

    private ThreeEdgesTest() {
    }

    public static void main(String[] args) {
        everyThird();
        everySecond();
        soMany();
        tooFewNumbers();
        numbersOfRows();
        orderOfThree();
        nothingBehindChanges();
        ontoOneOfThese();
        ontoAnySort();
        anyTwoNoSuchJar();
        anyTwoAsManyLetters();
        anyTwoOfTheSame();
        anyTwoEachLetter();
        threeMarks();
        noMarks();
        backToTheLatest();
        keptAsTheyAre();
        notTakenBack();
        Check.finish();
    }

    // Section 4: "LETTER by LETTER the sum of both (a 0, b 1 ..) by 26"
    private static void everyThird() {
        for (int a = 1; a <= 26; a++) {
            EchoJars x = new EchoJars();
            x.tray(0, 0, 1);
            x.tray(1, 0, 1);
            x.tray(2, 0, 1);
            x.write(0, 0, a);
            for (int b = 1; b <= 26; b++) {
                x.write(1, 0, b);
                Check.done("third", x, x.third(0, 1, 2, 1));
                int sum = a - 1 + b - 1;
                Check.fine(a + " and " + b, x, x.read(2, 0), sum >= 26 ? sum - 25 : sum + 1);
            }
        }
    }

    // Section 4: "SECOND of a row and a THIRD: the row that makes it"
    private static void everySecond() {
        for (int a = 1; a <= 26; a++) {
            EchoJars x = new EchoJars();
            x.tray(0, 0, 1);
            x.tray(1, 0, 1);
            x.tray(2, 0, 1);
            x.write(0, 0, a);
            for (int third = 1; third <= 26; third++) {
                x.write(1, 0, third);
                Check.done("second", x, x.second(0, 1, 2, 1));
                Check.fine(a + " to " + third, x, x.read(2, 0), third >= a ? third - a + 1 : third - a + 27);
            }
        }
    }

    /** TRAYS 0 to 2 have 17 LETTERS each, TRAY 3 two. */
    private static EchoJars rows() {
        EchoJars x = Edge.full();
        for (int tray = 0; tray < 3; tray++) {
            Texts.lay(x, tray, SEVENTEEN);
        }
        Texts.lay(x, 3, "zy");
        return x;
    }

    // Promise 54: "the first so many numbers (1 to 16)"
    private static void soMany() {
        for (int many : new int[] {0, -1, 17, Integer.MIN_VALUE}) {
            Edge.denied("third of " + many, ThreeEdgesTest::rows, 5, x -> x.third(0, 1, 2, many));
            Edge.denied("second of " + many, ThreeEdgesTest::rows, 5, x -> x.second(0, 1, 2, many));
        }
        EchoJars x = rows();
        Check.done("sixteen", x, x.third(0, 1, 2, 16));
        Texts.row("sixteen", Texts.told(x, 2, 17), "acegikmoqsuwyaceq");
        Check.done("sixteen back", x, x.second(0, 2, 1, 16));
        Texts.row("sixteen back", Texts.told(x, 1, 17), SEVENTEEN);
        Check.done("one", x, x.third(3, 3, 2, 1));
        Texts.row("one", Texts.told(x, 2, 3), "yce");
    }

    // Promise 54: "4: of any of the three"
    private static void tooFewNumbers() {
        for (int many : new int[] {3, 18, Integer.MAX_VALUE}) {
            Edge.denied("third: the first has too few", ThreeEdgesTest::rows, 4, x -> x.third(3, 1, 2, many));
            Edge.denied("third: the second has too few", ThreeEdgesTest::rows, 4, x -> x.third(0, 3, 2, many));
            Edge.denied("third: too few places", ThreeEdgesTest::rows, 4, x -> x.third(0, 1, 3, many));
            Edge.denied("second: the first has too few", ThreeEdgesTest::rows, 4, x -> x.second(3, 1, 2, many));
            Edge.denied("second: the third has too few", ThreeEdgesTest::rows, 4, x -> x.second(0, 3, 2, many));
            Edge.denied("second: too few places", ThreeEdgesTest::rows, 4, x -> x.second(0, 1, 3, many));
        }
        EchoJars x = rows();
        Check.done("just enough", x, x.third(3, 3, 3, 2));
        Texts.row("just enough", Texts.told(x, 3, 2), "yw");
    }

    private static EchoJars rowsWith(int tray, int place, int v) {
        EchoJars x = rows();
        x.write(tray, place, v);
        return x;
    }

    // Promise 54: "also a number not 1 to 26"
    private static void numbersOfRows() {
        for (int v : new int[] {0, -1, 27, Short.MIN_VALUE, Short.MAX_VALUE}) {
            for (int tray = 0; tray < 2; tray++) {
                int at = tray;
                Edge.Makes makes = () -> rowsWith(at, 2, v);
                Edge.denied("third " + v + " in " + tray, makes, 5, x -> x.third(0, 1, 2, 3));
                Edge.denied("second " + v + " in " + tray, makes, 5, x -> x.second(0, 1, 2, 3));
                EchoJars x = makes.made();
                Check.done("third, not behind so many", x, x.third(0, 1, 2, 2));
                Check.done("second, not behind so many", x, x.second(0, 1, 2, 2));
            }
            EchoJars x = rowsWith(2, 2, v);
            Check.done("where it comes to it is gone", x, x.third(0, 1, 2, 3));
            Check.fine("c and c", x, x.read(2, 2), 5);
        }
        EchoJars x = rows();
        x.tray(0, 3, 1);
        x.write(0, 0, (1L << 32) + 1);
        Check.denied("more than 32 bits", x, x.third(0, 1, 2, 1), 5);
        Check.denied("more than 32 bits", x, x.second(1, 0, 2, 1), 5);
    }

    // Promise 54: "(1; 3; 4 ..; 5 ..; in this order)"; promise 55: "(likewise)"
    private static void orderOfThree() {
        Edge.denied("third: 1 ahead of 3", 1, x -> x.third(3, 99, 4, 0));
        Edge.denied("second: 1 ahead of 3", 1, x -> x.second(3, 4, 3, 0));
        Edge.denied("third: 3 ahead of 4", 3, x -> x.third(0, 1, 3, 99));
        Edge.denied("second: 3 ahead of 4", 3, x -> x.second(3, 1, 0, 99));
        Edge.denied("third: 3 ahead of 5", 3, x -> x.third(0, 3, 1, 0));
        Edge.denied("second: 3 ahead of 5", 3, x -> x.second(0, 1, 3, -1));
        // TRAY 0 has nine, the fourth a REST; TRAY 2 has three
        Edge.denied("third: 4 ahead of a REST", 4, x -> x.third(0, 1, 2, 4));
        Edge.denied("second: 4 ahead of a REST", 4, x -> x.second(0, 1, 2, 4));
        Edge.denied("third: 4 ahead of so many", 4, x -> x.third(0, 1, 2, 17));
        Edge.denied("second: 4 ahead of so many", 4, x -> x.second(0, 0, 0, 17));
        Edge.denied("third: 5 of a REST", 5, x -> x.third(0, 1, 0, 4));
        Edge.denied("third: 4 of the second ahead of a REST in the first", 4, x -> x.third(0, 2, 0, 4));
        Edge.denied("third: 4 of the first ahead of a REST in the second", 4, x -> x.third(2, 0, 0, 4));
        Edge.denied("second: 4 of the second ahead of a REST in the first", 4, x -> x.second(0, 2, 0, 4));
        Edge.denied("second: 4 of the first ahead of a REST in the second", 4, x -> x.second(2, 0, 0, 4));
    }

    // Section 5: "and no numbers behind it change"
    private static void nothingBehindChanges() {
        EchoJars x = rows();
        Check.done("third", x, x.third(0, 0, 1, 2));
        Texts.row("behind it", Texts.told(x, 1, 17), "accdefghijklmnopq");
        Check.done("second", x, x.second(0, 1, 2, 3));
        Texts.row("behind it", Texts.told(x, 2, 17), "abadefghijklmnopq");
        Texts.row("the first stays", Texts.told(x, 0, 17), SEVENTEEN);
    }

    // Promise 54: "to a third one, or one of these"
    private static void ontoOneOfThese() {
        EchoJars x = rows();
        Check.done("onto the first", x, x.third(0, 1, 0, 4));
        Texts.row("onto the first", Texts.told(x, 0, 5), "acege");
        x = rows();
        Check.done("onto the second", x, x.third(0, 1, 1, 4));
        Texts.row("onto the second", Texts.told(x, 1, 5), "acege");
        Texts.row("the first stays", Texts.told(x, 0, 5), "abcde");
        x = rows();
        Check.done("all one", x, x.third(2, 2, 2, 4));
        Texts.row("all one", Texts.told(x, 2, 5), "acege");
        x = rows();
        Check.done("second onto the first", x, x.second(3, 1, 3, 2));
        Texts.row("second onto the first", Texts.told(x, 3, 2), "bd");
        x = rows();
        Check.done("second onto the third", x, x.second(0, 3, 3, 2));
        Texts.row("second onto the third", Texts.told(x, 3, 2), "zx");
        Check.done("second, all one", x, x.second(0, 0, 0, 16));
        Texts.row("second, all one", Texts.told(x, 0, 17), "aaaaaaaaaaaaaaaaq");
    }

    private static void ontoAnySort() {
        for (int sort = 0; sort < 4; sort++) {
            EchoJars x = rows();
            x.tray(2, sort, 2);
            Check.done("sort " + sort, x, x.third(3, 3, 2, 2));
            Texts.row("sort " + sort, Texts.told(x, 2, 2), "yw");
        }
    }

    private static EchoJars jars() {
        // aab and bcd make bce
        return Edge.of("sound s aab;sound t bcd;sound u bce;sound v zzz;jar a size 3 leaks 0;jar b size 3 leaks 2;"
                + "jar c size 3 leaks 2;jar d size 2 leaks 0;jar e size 3 leaks 0;jar f size 1 leaks 0;"
                + "jar g size 1 leaks 0;fill a of s from 0 on 0;fill b of t from 0 on 0;fill c of u from 0 on 0;"
                + "fill d of s from 0 on 0;fill f of s from 0 on 0;", "", 0);
    }

    // Promise 56: "(2)"
    private static void anyTwoNoSuchJar() {
        for (int j : new int[] {-1, 7, 8, Integer.MIN_VALUE, Integer.MAX_VALUE}) {
            Edge.refused("first " + j, ThreeEdgesTest::jars, 2, x -> x.anyTwo(j, 0, 0));
            Edge.refused("second " + j, ThreeEdgesTest::jars, 2, x -> x.anyTwo(0, j, 0));
            Edge.refused("third " + j, ThreeEdgesTest::jars, 2, x -> x.anyTwo(0, 0, j));
        }
        Edge.refused("no JARS", EchoJars::new, 2, x -> x.anyTwo(0, 0, 0));
    }

    // Section 4: "all HEARD with as many LETTERS (one at least)"
    private static void anyTwoAsManyLetters() {
        Edge.same("three each", ThreeEdgesTest::jars, x -> x.anyTwo(0, 1, 2), 1, 0);
        Edge.same("none each", ThreeEdgesTest::jars, x -> x.anyTwo(4, 4, 4), 0, 0);
        Edge.same("one each: a a a", ThreeEdgesTest::jars, x -> x.anyTwo(5, 5, 5), 1, 0);
        Edge.same("the first is shorter", ThreeEdgesTest::jars, x -> x.anyTwo(3, 1, 2), 0, 0);
        Edge.same("the second is shorter", ThreeEdgesTest::jars, x -> x.anyTwo(0, 3, 2), 0, 0);
        Edge.same("the third is shorter", ThreeEdgesTest::jars, x -> x.anyTwo(0, 1, 3), 0, 0);
        Edge.same("the first is EMPTY", ThreeEdgesTest::jars, x -> x.anyTwo(4, 1, 2), 0, 0);
        Edge.same("the third is EMPTY", ThreeEdgesTest::jars, x -> x.anyTwo(0, 1, 4), 0, 0);
        EchoJars x = jars();
        x.day(2);
        // aab, cd and ce: no more as many; aa, cd and ce: not the sum
        Check.fine("not on that DAY", x, x.anyTwo(0, 1, 2), 0);
        Check.fine("nor the shorter one", x, x.anyTwo(3, 1, 2), 0);
        Check.fine("aa and cd make cd", x, x.anyTwo(3, 1, 1), 1);
    }

    private static void anyTwoOfTheSame() {
        Edge.same("aa aa aa", ThreeEdgesTest::jars, x -> x.anyTwo(3, 3, 3), 1, 0);
        Edge.same("bcd bcd bcd", ThreeEdgesTest::jars, x -> x.anyTwo(1, 1, 1), 0, 0);
        Edge.same("not by another order", ThreeEdgesTest::jars, x -> x.anyTwo(0, 2, 1), 0, 0);
        Edge.same("the first two change places", ThreeEdgesTest::jars, x -> x.anyTwo(1, 0, 2), 1, 0);
    }

    private static void anyTwoEachLetter() {
        Edge.same("eight JARS", Edge::eight, x -> x.anyTwo(0, 6, 6), 1, 0);
        Edge.same("the last of eight", Edge::eight, x -> x.anyTwo(0, 7, 7), 1, 0);
        Edge.refused("no ninth", Edge::eight, 2, x -> x.anyTwo(0, 8, 8));
        String shop = "sound s zya;sound t bcz;sound u aaz;sound v baz;sound w aay;sound p aba;"
                + "jar a size 3 leaks 0;jar b size 3 leaks 0;jar c size 3 leaks 0;jar d size 3 leaks 0;"
                + "jar e size 3 leaks 0;jar f size 3 leaks 0;fill a of s from 0 on 0;fill b of t from 0 on 0;"
                + "fill c of u from 0 on 0;fill d of v from 0 on 0;fill e of w from 0 on 0;fill f of p from 0 on 0;";
        int[] due = {0, 0, 1, 0, 0, 0};
        for (int third = 0; third < 6; third++) {
            int asked = third;
            Edge.same("by 26, third " + third, () -> Edge.of(shop, "", 0), x -> x.anyTwo(0, 1, asked), due[third], 0);
        }
    }

    // Section 4: "MARKS, at most 3"; promise 57: "(7)"
    private static void threeMarks() {
        EchoJars x = new EchoJars();
        for (int k = 1; k <= 3; k++) {
            Check.fine("mark " + k, x, x.mark(), k);
        }
        Edge.Makes three = () -> {
            EchoJars y = Edge.full();
            y.mark();
            y.day(8);
            y.mark();
            y.day(9);
            return y;
        };
        Edge.refused("a fourth", three, 7, y -> y.mark());
        x = three.made();
        x.mark();
        x.mark();
        Check.fine("back once", x, x.back(), 2);
        Check.fine("the third MARK's DAY", x, x.many(3), 8);
        Check.fine("there is room again", x, x.mark(), 3);
        Check.refused("for one", x, x.mark(), 7);
    }

    // Promise 58: "how many there are left (8)"
    private static void noMarks() {
        Edge.refused("none yet", EchoJars::new, 8, x -> x.back());
        Edge.Makes gone = () -> {
            EchoJars x = Edge.full();
            x.back();
            return x;
        };
        Edge.refused("the only one is gone", gone, 8, x -> x.back());
        EchoJars x = gone.made();
        Check.fine("anew", x, x.mark(), 1);
        Check.fine("and back", x, x.back(), 0);
    }

    // Section 4: "all is taken back to the latest MARK, which is gone then"
    private static void backToTheLatest() {
        EchoJars x = new EchoJars();
        for (int k = 1; k <= 3; k++) {
            Texts.shop(x, "sound s " + "abc".substring(0, k) + ";jar j size " + k + " leaks 0;");
            Texts.law(x, "mix a with b gives " + (char) ('c' + k) + ";");
            x.day(100 * k);
            x.mark();
        }
        Texts.shop(x, "");
        for (int k = 3; k >= 1; k--) {
            Check.fine("left", x, x.back(), k - 1);
            Check.fine("its DAY", x, x.many(3), 100 * k);
            Check.fine("its SHOP", x, x.jar(0, 0), k);
            Check.refused("its SOUND", x, x.letter(0, k), 8);
            Check.fine("its LAW", x, x.mixes(1, 2), 3 + k);
        }
    }

    // Section 4: "the SHOP, the DAY, the LAW are kept as they are"
    private static void keptAsTheyAre() {
        EchoJars x = Edge.emptyTape();
        x.mark();
        String ahead = Edge.everything(x);
        x = Edge.emptyTape();
        x.mark();
        x.mark();
        x.day(0);
        Texts.law(x, "mix any with any gives a;");
        Texts.shop(x, "sound z zz;jar y size 1 leaks 0;fill y of z from 0 on 0;");
        x.day(3);
        Texts.law(x, "mix a with a gives z;");
        Check.fine("back", x, x.back(), 2);
        // the ROAD and the FAULT are no part of what a MARK keeps
        x.road(1, 2);
        Texts.shop(x, "mix z with z gives q");
        Check.is("all as it was", Edge.everything(x).equals(ahead));
    }

    private static void notTakenBack() {
        EchoJars x = Edge.full();
        x.mark();
        x.write(1, 0, 5);
        x.safe(0, 1, 0);
        x.feed(0, 0, 0, 0, 0);
        x.merged(8);
        Check.fine("back", x, x.back(), 1);
        Check.fine("no TRAY", x, x.read(1, 0), 5);
        Check.fraction("no FRACTION", x, 1, 1);
        Check.refused("no merged()", x, x.mergedAt(0), 8);
        Check.same("no tape", x.feed(0, 0, 0, 0, 0), 60);
        Check.same("no FAULT", x.fault(0), 1);
        Check.fine("nor the latest road()", x, x.brokeOn(2), 1);
    }
}
