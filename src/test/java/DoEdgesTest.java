/** The edges that section 3 and promises 44 to 49 name, with those of section 5 on their STATUS: a sentence a method. */
public final class DoEdgesTest {
    private static final int[] NO_JARS = {-1, 4, 8, Integer.MIN_VALUE, Integer.MAX_VALUE};
    private static final int[] NO_SOUNDS = {-1, 3, 8, Integer.MIN_VALUE, Integer.MAX_VALUE};
    private static final int[] NO_DAYS = {-1, 1000, Integer.MIN_VALUE, Integer.MAX_VALUE};
    private static final int[] NO_WHATS = {-1, 2, Integer.MIN_VALUE, Integer.MAX_VALUE};

    private DoEdgesTest() {
    }

    public static void main(String[] args) {
        lastOfEight();
        noSuchThing();
        daysNumbers();
        whatNumbers();
        keepsOnTheDay();
        keepsWhateverWasInIt();
        wholeJustEnough();
        wholeNotEnough();
        wholeOfAllJars();
        fewestOfUnlike();
        cheapestLeastCost();
        cheapestLeastSet();
        shelfOfNone();
        shelfSkipsEmptyOnes();
        shelfFromTheDay();
        shelfLeaksWhileItWaits();
        shelfFirstOrder();
        shelfOfEight();
        shelfAtPlaces();
        shelfLatest();
        piecedCannotBe();
        piecedSideBySide();
        piecedAsOftenAsOneLikes();
        piecedBehindOthers();
        piecedFewest();
        joinsHeard();
        joinsWhateverThePieces();
        Check.finish();
    }

    // Terms: "SOUNDS, at most 8", "JARS, at most 8": what is asked of the last, and of a ninth
    private static void lastOfEight() {
        Edge.same("keeps", Edge::eight, x -> x.keeps(7, 11), 1, 0);
        Edge.same("fewest", Edge::eight, x -> x.fewest(7, 0), 2, 0);
        Edge.same("cheapest", Edge::eight, x -> x.cheapest(7, 0, 1), 3, 0);
        Edge.same("pieced", Edge::eight, x -> x.pieced(7, 0), 2, 0);
        Edge.same("its JOINS", Edge::eight, x -> x.pieced(7, 1), 1, 0);
        Edge.refused("keeps of a ninth", Edge::eight, 2, x -> x.keeps(8, 0));
        Edge.refused("fewest of a ninth", Edge::eight, 2, x -> x.fewest(8, 0));
        Edge.refused("cheapest of a ninth", Edge::eight, 2, x -> x.cheapest(8, 0, 0));
        Edge.refused("pieced of a ninth", Edge::eight, 2, x -> x.pieced(8, 0));
        shelf(Edge.eight(), 96, 7, 0, 1, 2, 3, 4, 5, 6);
    }

    // STATUS "2 no such SOUND, JAR", ahead of 5
    private static void noSuchThing() {
        for (int j : NO_JARS) {
            Edge.refused("keeps " + j, 2, x -> x.keeps(j, 0));
            Edge.refused("keeps " + j + " ahead of 5", 2, x -> x.keeps(j, -1));
        }
        for (int s : NO_SOUNDS) {
            Edge.refused("fewest " + s, 2, x -> x.fewest(s, 0));
            Edge.refused("cheapest " + s, 2, x -> x.cheapest(s, 0, 0));
            Edge.refused("pieced " + s, 2, x -> x.pieced(s, 0));
            Edge.refused("fewest " + s + " ahead of 5", 2, x -> x.fewest(s, -1));
            Edge.refused("cheapest " + s + " ahead of 5", 2, x -> x.cheapest(s, 1000, 2));
            Edge.refused("pieced " + s + " ahead of 5", 2, x -> x.pieced(s, 2));
        }
        Edge.refused("no SOUNDS", EchoJars::new, 2, x -> x.fewest(0, 0));
        Edge.refused("no SOUNDS", EchoJars::new, 2, x -> x.pieced(0, 0));
        Edge.refused("no JARS", EchoJars::new, 2, x -> x.keeps(0, 0));
    }

    // Promise 44: "so many days (0 to 999) later", and 45, 46; 5 ahead of 9
    private static void daysNumbers() {
        for (int days : NO_DAYS) {
            Edge.refused("keeps for " + days, 5, x -> x.keeps(0, days));
            Edge.refused("fewest for " + days, 5, x -> x.fewest(0, days));
            Edge.refused("cheapest for " + days, 5, x -> x.cheapest(0, days, 0));
            Edge.refused("the set for " + days, 5, x -> x.cheapest(0, days, 1));
        }
        Edge.asked("keeps for 0", 5, x -> x.keeps(0, 0));
        Edge.asked("keeps for 999", 3, x -> x.keeps(3, 999));
        Edge.asked("fewest for 0", 1, x -> x.fewest(2, 0));
        Edge.asked("fewest for 999", 1, x -> x.fewest(2, 999));
        Edge.asked("cheapest for 999", 1, x -> x.cheapest(2, 999, 0));
        Edge.asked("the set for 999", 8, x -> x.cheapest(2, 999, 1));
    }

    private static void whatNumbers() {
        for (int what : NO_WHATS) {
            Edge.refused("cheapest " + what, 5, x -> x.cheapest(0, 0, what));
            Edge.refused("5 ahead of 9 for cheapest " + what, 5, x -> x.cheapest(0, 999, what));
            Edge.refused("pieced " + what, 5, x -> x.pieced(0, what));
            Edge.refused("5 ahead of 9 for pieced " + what, 5, x -> x.pieced(2, what));
        }
        Edge.refused("9 for pieced", 9, x -> x.pieced(2, 0));
        Edge.refused("9 for its JOINS", 9, x -> x.pieced(2, 1));
    }

    // Section 3: "a JAR keeps as many LETTERS as its SIZE less what has gone by then"
    private static void keepsOnTheDay() {
        EchoJars x = Edge.of("jar a size 3 leaks 4 head;jar b size 1 leaks 99 tail;jar c size 12 leaks 1;", "", 0);
        int[] days = {0, 3, 4, 7, 8, 11, 12, 13, 999};
        int[] due = {3, 3, 2, 2, 1, 1, 0, 0, 0};
        for (int k = 0; k < days.length; k++) {
            Check.fine("keeps for " + days[k], x, x.keeps(0, days[k]), due[k]);
        }
        Check.fine("98 days", x, x.keeps(1, 98), 1);
        Check.fine("99 days", x, x.keeps(1, 99), 0);
        Check.fine("11 days", x, x.keeps(2, 11), 1);
        Check.fine("12 days", x, x.keeps(2, 12), 0);
    }

    // Section 3: "(whatever was in them)"; promise 44: "filled now"
    private static void keepsWhateverWasInIt() {
        EchoJars x = Edge.of("sound s ab;sound t abcdef;jar j size 6 leaks 2;fill j of s from 1 on 0;", "", 500);
        Check.fine("its SIZE, not what it had", x, x.keeps(0, 0), 6);
        Check.fine("from now on", x, x.keeps(0, 3), 5);
        Check.fine("a JAR that is silent", x, x.heard(0), 0);
        Check.fine("WHOLE by it", x, x.fewest(1, 1), 1);
    }

    private static EchoJars three() {
        return Edge.of("sound s abcdef;sound t abcdefg;jar a size 3 leaks 2 costs 1;jar b size 2 leaks 0 costs 1;"
                + "jar c size 1 leaks 0 costs 1;", "", 0);
    }

    // Section 3: "a SOUND is broken into rows side by side, one into each of some JARS"
    private static void wholeJustEnough() {
        Edge.same("six of 3, 2, 1", DoEdgesTest::three, x -> x.fewest(0, 0), 3, 0);
        Edge.same("a day later", DoEdgesTest::three, x -> x.fewest(0, 1), 3, 0);
        Edge.same("its cost", DoEdgesTest::three, x -> x.cheapest(0, 1, 0), 3, 0);
        Edge.same("its set", DoEdgesTest::three, x -> x.cheapest(0, 1, 1), 7, 0);
    }

    // Promises 45 and 46: "9: all are not enough"
    private static void wholeNotEnough() {
        Edge.refused("one LETTER more", DoEdgesTest::three, 9, x -> x.fewest(1, 0));
        Edge.refused("one LETTER more to pay", DoEdgesTest::three, 9, x -> x.cheapest(1, 0, 0));
        Edge.refused("one LETTER more for a set", DoEdgesTest::three, 9, x -> x.cheapest(1, 0, 1));
        Edge.refused("one LETTER has gone", DoEdgesTest::three, 9, x -> x.fewest(0, 2));
        Edge.refused("one LETTER has gone to pay", DoEdgesTest::three, 9, x -> x.cheapest(0, 2, 0));
        Edge.Makes soundAlone = () -> Edge.of("sound s a;", "", 0);
        Edge.refused("no JARS", soundAlone, 9, x -> x.fewest(0, 0));
        Edge.refused("no JARS to pay", soundAlone, 9, x -> x.cheapest(0, 0, 0));
        Edge.refused("no JARS for a set", soundAlone, 9, x -> x.cheapest(0, 0, 1));
    }

    private static void wholeOfAllJars() {
        StringBuilder text = new StringBuilder("sound s abcdefghijklmnop;");
        for (char c = 'a'; c < 'i'; c++) {
            text.append("jar j").append(c).append(" size 2 leaks 0 costs 99;");
        }
        Edge.Makes eight = () -> Edge.of(text.toString(), "", 0);
        Edge.same("eight", eight, x -> x.fewest(0, 0), 8, 0);
        Edge.same("eight times 99", eight, x -> x.cheapest(0, 0, 0), 792, 0);
        Edge.same("all", eight, x -> x.cheapest(0, 0, 1), 255, 0);
    }

    private static void fewestOfUnlike() {
        EchoJars x = Edge.of("sound s abcdef;jar a size 1 leaks 0;jar b size 2 leaks 0;jar c size 3 leaks 0;"
                + "jar d size 4 leaks 0;jar e size 6 leaks 3;", "", 0);
        Check.fine("the last alone", x, x.fewest(0, 2), 1);
        Check.fine("it leaks: by another", x, x.fewest(0, 3), 2);
        Check.fine("it has leaked all: 4 and 2", x, x.fewest(0, 18), 2);
    }

    // Section 3: "CHEAPEST: the least COST together"
    private static void cheapestLeastCost() {
        EchoJars x = Edge.of("sound s abcd;jar a size 4 leaks 0 costs 5;jar b size 2 leaks 0 costs 2;"
                + "jar c size 2 leaks 0 costs 2;jar d size 1 leaks 0;", "", 0);
        Check.fine("two for 4, not one for 5", x, x.cheapest(0, 0, 0), 4);
        Check.fine("its set", x, x.cheapest(0, 0, 1), 6);
        Check.fine("one would be FEWEST", x, x.fewest(0, 0), 1);
        x = Edge.of("sound s abcd;jar a size 4 leaks 0;", "", 0);
        Check.fine("for nothing", x, x.cheapest(0, 0, 0), 0);
        Check.fine("not by none", x, x.cheapest(0, 0, 1), 1);
    }

    // Section 3: "of those sets the least as a number"; "A JAR of the set may hold none of it"
    private static void cheapestLeastSet() {
        EchoJars x = Edge.of("sound s ab;jar a size 1 leaks 0 costs 1;jar b size 1 leaks 0 costs 1;"
                + "jar c size 2 leaks 0 costs 2;jar d size 2 leaks 0 costs 2;", "", 0);
        Check.fine("cost", x, x.cheapest(0, 0, 0), 2);
        Check.fine("3, not 4", x, x.cheapest(0, 0, 1), 3);
        x = Edge.of("sound s ab;jar a size 1 leaks 0;jar b size 2 leaks 0;jar c size 1 leaks 0;", "", 0);
        Check.fine("2, the least that is WHOLE", x, x.cheapest(0, 0, 1), 2);
        x = Edge.of("sound s ab;jar a size 2 leaks 0 costs 3;jar b size 2 leaks 0 costs 2;jar c size 2 leaks 0 costs 2;",
                "", 0);
        Check.fine("2, not 1 or 4", x, x.cheapest(0, 0, 1), 2);
    }

    private static void shelf(EchoJars x, int best, int... jars) {
        Check.fine("shelf", x, x.shelf(), best);
        for (int k = 0; k < jars.length; k++) {
            Check.fine("JAR " + k, x, x.shelfAt(k), jars[k]);
        }
        Check.refused("none behind it", x, x.shelfAt(jars.length), 8);
    }

    // Promise 47: "(8: all JARS are EMPTY)"
    private static void shelfOfNone() {
        Edge.refused("no JARS", EchoJars::new, 8, x -> x.shelf());
        Edge.refused("EMPTY ones", () -> Edge.of("sound s a;jar a size 1 leaks 0;jar b size 1 leaks 0;", "", 0), 8,
                x -> x.shelf());
        EchoJars x = Edge.of("sound s a;jar j size 1 leaks 1;fill j of s from 0 on 0;", "", 1);
        shelf(x, 0, 0);
        x = Edge.of("sound s a;jar j size 1 leaks 1;fill j of s from 0 on 999;", "", 0);
        shelf(x, 0, 0);
    }

    // Section 3: "until all JARS that are not EMPTY are"
    private static void shelfSkipsEmptyOnes() {
        shelf(Edge.of("sound s ab;jar a size 2 leaks 0 worth 9;jar b size 2 leaks 0;jar c size 2 leaks 0 worth 9;"
                + "jar d size 1 leaks 0 worth 3;fill b of s from 0 on 0;fill d of s from 0 on 0;", "", 0), 5, 1, 3);
    }

    // Section 3: "one JAR is opened on each DAY from a DAY on"
    private static void shelfFromTheDay() {
        String shop = "sound s abc;jar a size 3 leaks 0;jar b size 1 leaks 0 worth 5;fill a of s from 0 on 5;"
                + "fill b of s from 0 on 0;";
        shelf(Edge.of(shop, "", 3), 5, 0, 1);
        shelf(Edge.of(shop, "", 4), 8, 1, 0);
        shelf(Edge.of(shop, "", 5), 8, 0, 1);
        shelf(Edge.of(shop, "", 9999), 8, 0, 1);
    }

    // Section 3: "each is WORTH its LETTERS HEARD then by what one is WORTH"
    private static void shelfLeaksWhileItWaits() {
        String shop = "sound s abcd;jar a size 4 leaks 0;jar b size 4 leaks 1 worth 2;jar c size 2 leaks 1 worth 7;"
                + "fill a of s from 0 on 0;fill b of s from 0 on 0;fill c of s from 0 on 0;";
        // c 14, b 6, a 4
        shelf(Edge.of(shop, "", 0), 24, 2, 1, 0);
        // c 7, b 4, a 4
        shelf(Edge.of(shop, "", 1), 15, 2, 1, 0);
        shelf(Edge.of("sound s ab;jar a size 2 leaks 0 worth 0;jar b size 2 leaks 0 worth 99;fill a of s from 0 on 0;"
                + "fill b of s from 0 on 0;", "", 0), 198, 0, 1);
    }

    // Section 3: "the first order of these by JARS' numbers"
    private static void shelfFirstOrder() {
        shelf(Edge.of("sound s a;jar a size 1 leaks 0;jar b size 1 leaks 0;jar c size 1 leaks 0;fill c of s from 0 on 0;"
                + "fill b of s from 0 on 0;fill a of s from 0 on 0;", "", 0), 3, 0, 1, 2);
        // c must be first; then either
        shelf(Edge.of("sound s a;jar a size 1 leaks 0;jar b size 1 leaks 0;jar c size 1 leaks 1;fill a of s from 0 on 0;"
                + "fill b of s from 0 on 0;fill c of s from 0 on 0;", "", 0), 3, 2, 0, 1);
        // b on either of the first two days
        shelf(Edge.of("sound s a;jar a size 1 leaks 0;jar b size 1 leaks 2;jar c size 1 leaks 0;fill a of s from 0 on 0;"
                + "fill b of s from 0 on 0;fill c of s from 0 on 0;", "", 0), 3, 0, 1, 2);
    }

    private static void shelfOfEight() {
        StringBuilder text = new StringBuilder("sound s abcdefghijkl;");
        for (char c = 'a'; c < 'i'; c++) {
            text.append("jar j").append(c).append(" size 12 leaks 1 worth ").append(99 - 'h' + c).append(";fill j")
                    .append(c).append(" of s from 0 on 0;");
        }
        int best = 0;
        for (int day = 0; day < 8; day++) {
            best += (99 - day) * (12 - day);
        }
        shelf(Edge.of(text.toString(), "", 0), best, 7, 6, 5, 4, 3, 2, 1, 0);
    }

    // Promise 48: "(8: none such)"
    private static void shelfAtPlaces() {
        Edge.Makes makes = () -> {
            EchoJars x = Edge.of("sound s a;jar a size 1 leaks 0;jar b size 1 leaks 1;fill a of s from 0 on 0;"
                    + "fill b of s from 0 on 0;", "", 0);
            x.shelf();
            return x;
        };
        Edge.same("the first", makes, x -> x.shelfAt(0), 1, 0);
        Edge.same("the last", makes, x -> x.shelfAt(1), 0, 0);
        for (int k : new int[] {-1, 2, 8, Integer.MIN_VALUE, Integer.MAX_VALUE}) {
            Edge.refused("place " + k, makes, 8, x -> x.shelfAt(k));
        }
        Edge.refused("ahead of any", EchoJars::new, 8, x -> x.shelfAt(0));
    }

    // Promise 48: "by shelf() latest with STATUS 0"
    private static void shelfLatest() {
        EchoJars x = Edge.of("sound s a;jar a size 1 leaks 0;jar b size 1 leaks 0;fill b of s from 0 on 0;", "", 0);
        shelf(x, 1, 1);
        Texts.shop(x, "jar a size 1 leaks 0;");
        Check.refused("8", x, x.shelf(), 8);
        Check.fine("it stays", x, x.shelfAt(0), 1);
        Texts.shop(x, "sound s a;jar a size 1 leaks 0;fill a of s from 0 on 0;");
        Check.fine("it stays until the next", x, x.shelfAt(0), 1);
        shelf(x, 1, 0);
    }

    // Promise 49: "9: it can't be"
    private static void piecedCannotBe() {
        Edge.Makes makes = () -> Edge.of("sound s abc;sound t abd;sound u dab;sound v adb;jar a size 2 leaks 0;"
                + "jar b size 1 leaks 0;jar c size 9 leaks 1;fill a of s from 0 on 0;fill b of s from 2 on 0;"
                + "fill c of t from 2 on 1;", "", 0);
        Edge.same("ab c", makes, x -> x.pieced(0, 0), 2, 0);
        for (int what = 0; what < 2; what++) {
            int asked = what;
            Edge.refused("its last LETTER", makes, 9, x -> x.pieced(1, asked));
            Edge.refused("its first LETTER", makes, 9, x -> x.pieced(2, asked));
            Edge.refused("one between", makes, 9, x -> x.pieced(3, asked));
        }
        EchoJars x = makes.made();
        x.day(1);
        Check.fine("HEARD on day 1", x, x.pieced(1, 0), 2);
        x.day(2);
        Check.refused("gone on day 2", x, x.pieced(1, 0), 9);
        Edge.refused("no JARS", () -> Edge.of("sound s a;", "", 0), 9, y -> y.pieced(0, 0));
        Edge.refused("EMPTY ones", () -> Edge.of("sound s a;jar j size 1 leaks 0;", "", 0), 9, y -> y.pieced(0, 1));
    }

    // Section 3: "rows of LETTERS that stand, side by side, in what is HEARD"
    private static void piecedSideBySide() {
        EchoJars x = Edge.of("sound s abcd;sound t axbxcxd;sound u bcx;jar a size 7 leaks 0;fill a of t from 0 on 0;", "",
                0);
        Check.fine("LETTER by LETTER", x, x.pieced(0, 0), 4);
        Check.fine("all in one", x, x.pieced(1, 0), 1);
        Check.fine("b cx", x, x.pieced(2, 0), 2);
    }

    // Section 3: "any JARS on a DAY (each as often as one likes)"
    private static void piecedAsOftenAsOneLikes() {
        EchoJars x = Edge.of("sound s aaaaaaaaaaaaaaaa;sound t ababababababab;jar a size 1 leaks 0;jar b size 5 leaks 0;"
                + "fill a of s from 0 on 0;", "", 0);
        Check.fine("sixteen", x, x.pieced(0, 0), 16);
        Check.fine("fifteen JOINS of vowels", x, x.pieced(0, 1), 15);
        x = Edge.of("sound s ababababababab;jar b size 5 leaks 0;fill b of s from 0 on 0;", "", 0);
        Check.fine("ababa baba baba b, or such", x, x.pieced(0, 0), 4);
        Check.fine("no JOINS", x, x.pieced(0, 1), 0);
    }

    private static void piecedBehindOthers() {
        EchoJars x = Edge.of("sound s ab;sound t ba;jar a size 1 leaks 0;jar b size 1 leaks 0;fill a of s from 0 on 0;"
                + "fill b of t from 0 on 0;", "", 0);
        Texts.lay(x, 0, ".a");
        for (int sound = 0; sound < 2; sound++) {
            Check.fine("ahead of others", x, x.pieced(sound, 0), 2);
            Check.fine("couples", x, x.couples(0, 1), 650);
            Check.fine("behind couples()", x, x.pieced(sound, 0), 2);
            Check.fine("far", x, x.far(0, 1 - sound), 1);
            Check.fine("behind far()", x, x.pieced(sound, 0), 2);
            Check.refused("witness: a and b stand in both", x, x.witness(0), 8);
            Check.fine("behind witness()", x, x.pieced(sound, 0), 2);
        }
    }

    // Section 3: "the FEWEST pieces"
    private static void piecedFewest() {
        EchoJars x = Edge.of("sound s abcde;sound t abc;sound u ab;sound v cde;jar a size 3 leaks 0;jar b size 2 leaks 0;"
                + "jar c size 3 leaks 0;fill a of t from 0 on 0;fill b of u from 0 on 0;fill c of v from 0 on 0;", "", 0);
        Check.fine("ab cde, or abc de", x, x.pieced(0, 0), 2);
        Check.fine("itself", x, x.pieced(1, 0), 1);
        Check.fine("within another", x, x.pieced(2, 0), 1);
    }

    private static EchoJars letters(String row) {
        StringBuilder text = new StringBuilder("sound s ").append(row).append(";");
        for (int k = 0; k < row.length(); k++) {
            char name = (char) ('a' + k);
            text.append("jar j").append(name).append(" size 1 leaks 0;fill j").append(name).append(" of s from ")
                    .append(k).append(" on 0;");
        }
        return Edge.of(text.toString(), "", 0);
    }

    // Section 3: "HEARD where two pieces meet and both LETTERS there are vowels (a e i o u), or none is"
    private static void joinsHeard() {
        for (char c = 'a'; c <= 'z'; c++) {
            boolean isVowel = c == 'a' || c == 'e' || c == 'i' || c == 'o' || c == 'u';
            Check.same("a " + c, letters("a" + c).pieced(0, 1), isVowel ? 1 : 0);
            Check.same(c + " b", letters(c + "b").pieced(0, 1), isVowel ? 0 : 1);
        }
        EchoJars x = letters("a");
        Check.fine("one piece", x, x.pieced(0, 0), 1);
        Check.fine("no JOIN ahead of it", x, x.pieced(0, 1), 0);
        Check.same("a b", letters("ab").pieced(0, 1), 0);
        Check.same("b b b", letters("bbb").pieced(0, 1), 2);
    }

    // Section 3: "the fewest that must be HEARD (whatever the pieces)"
    private static void joinsWhateverThePieces() {
        EchoJars x = Edge.of("sound s bcad;sound t bc;sound u ad;sound v ca;jar a size 2 leaks 0;jar b size 2 leaks 0;"
                + "jar c size 1 leaks 0;jar d size 1 leaks 0;fill a of t from 0 on 0;fill b of u from 0 on 0;", "", 0);
        Check.fine("bc ad", x, x.pieced(0, 0), 2);
        Check.fine("c by a is not heard", x, x.pieced(0, 1), 0);
        // cab by d is heard, ca by bd is not
        x = Edge.of("sound s cabd;sound t cab;sound u bd;jar a size 3 leaks 0;jar b size 2 leaks 0;"
                + "fill a of t from 0 on 0;fill b of u from 0 on 0;", "", 0);
        Check.fine("FEWEST", x, x.pieced(0, 0), 2);
        Check.fine("ca bd", x, x.pieced(0, 1), 0);
        // bb is in no JAR, so that a JOIN is between them
        x = Edge.of("sound s abba;sound t ab;sound u ba;jar a size 2 leaks 0;jar b size 2 leaks 0;"
                + "fill a of t from 0 on 0;fill b of u from 0 on 0;", "", 0);
        Check.fine("ab ba", x, x.pieced(0, 1), 1);
        // two pieces are zo by obz, where o by o is heard; three are z by oo by bz, where nothing is
        x = Edge.of("sound s zoobz;sound t zo;sound u obz;sound v z;sound w oob;jar a size 2 leaks 0;jar b size 3 leaks 0;"
                + "jar c size 1 leaks 0;jar d size 3 leaks 0;fill a of t from 0 on 0;fill b of u from 0 on 0;"
                + "fill c of v from 0 on 0;fill d of w from 0 on 0;", "", 0);
        Check.fine("zo obz", x, x.pieced(0, 0), 2);
        Check.fine("z oo bz", x, x.pieced(0, 1), 0);
    }
}
