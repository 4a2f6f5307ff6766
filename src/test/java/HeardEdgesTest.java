/** The edges that section 2 and promises 17 to 29 name, with those of section 5 on their STATUS: a sentence a method. */
public final class HeardEdgesTest {
    private static final int[] NO_JARS = {-1, 4, 8, Integer.MIN_VALUE, Integer.MAX_VALUE};
    private static final int[] NO_SOUNDS = {-1, 3, 8, Integer.MIN_VALUE, Integer.MAX_VALUE};
    private static final int[] NO_LETTERS = {-1, 27, Integer.MIN_VALUE, Integer.MAX_VALUE};
    private static final int ALL = (1 << 27) - 1;

    private HeardEdgesTest() {
    }

    public static void main(String[] args) {
        lastOfEight();
        noSuchJar();
        noSuchSound();
        aheadOfItsDay();
        emptyIsNotHeard();
        leaksOnTheDay();
        headTailTurns();
        neverLeaks();
        nothingIsLeft();
        lostAllAtMost();
        silentDays();
        silentNever();
        heardPlaces();
        loudestDays();
        loudestFirstDay();
        loudestLastDay();
        loudestTogether();
        rowsNeedPlaces();
        rowsChangeNothingBehind();
        restWhereOneHasNone();
        aloneAndNone();
        firstRuleThatFits();
        letterFitsItself();
        anyFitsARest();
        ruleGivesFirstOrSecond();
        withoutARule();
        mixesNumbers();
        othersNumbers();
        othersSets();
        echoedLater();
        echoedOrder();
        clearestLater();
        clearestOfSeveral();
        clearestRestsAhead();
        clearestWhat();
        besideHowMany();
        besideFrom();
        besideNumbers();
        besideOrder();
        besideRests();
        couplesHowMany();
        couplesNumbers();
        couplesOrder();
        couplesByTheLaw();
        Check.finish();
    }

    // Terms: "SOUNDS, at most 8", "JARS, at most 8": what is asked of the last, and of a ninth
    private static void lastOfEight() {
        Edge.same("heard", Edge::eight, x -> x.heard(7), 12, 0);
        Edge.same("heardAt", Edge::eight, x -> x.heardAt(7, 11), 8, 0);
        Edge.refused("heardAt behind it", Edge::eight, 8, x -> x.heardAt(7, 12));
        Edge.same("lost", Edge::eight, x -> x.lost(7), 0, 0);
        Edge.same("silent", Edge::eight, x -> x.silent(7), 13, 0);
        Edge.refused("heard of a ninth", Edge::eight, 2, x -> x.heard(8));
        Edge.refused("silent of a ninth", Edge::eight, 2, x -> x.silent(8));
        EchoJars x = Edge.eight();
        x.tray(0, 0, 60);
        Check.fine("pourOut", x, x.pourOut(7, 0), 12);
        Check.fine("atOnce", x, x.atOnce(6, 7, 0), 12);
        Texts.row("atOnce", Texts.told(x, 0, 13), ".............");
        Check.fine("echoed", x, x.echoed(7, 15, 0), 31);
        Texts.row("echoed", Texts.told(x, 0, 32), "h".repeat(31) + ".");
        Check.fine("clearest", x, x.clearest(6, 7, 0), 12);
        Check.fine("clearest LETTERS", x, x.clearest(6, 7, 1), 24);
        Check.fine("beside", x, x.beside(0, 8, 7, 15), 2);
        Check.refused("a ninth", x, x.echoed(8, 0, 0), 2);
        Check.refused("a ninth", x, x.clearest(0, 8, 0), 2);
    }

    // STATUS "2 no such SOUND, JAR"
    private static void noSuchJar() {
        for (int j : NO_JARS) {
            Edge.refused("heard " + j, 2, x -> x.heard(j));
            Edge.refused("heardAt " + j, 2, x -> x.heardAt(j, 0));
            Edge.refused("pourOut " + j, 2, x -> x.pourOut(j, 0));
            Edge.refused("lost " + j, 2, x -> x.lost(j));
            Edge.refused("silent " + j, 2, x -> x.silent(j));
            Edge.refused("atOnce a " + j, 2, x -> x.atOnce(j, 0, 0));
            Edge.refused("atOnce b " + j, 2, x -> x.atOnce(0, j, 0));
            Edge.refused("clearest a " + j, 2, x -> x.clearest(j, 0, 0));
            Edge.refused("clearest b " + j, 2, x -> x.clearest(0, j, 0));
            Edge.refused("2 ahead of 8", 2, x -> x.heardAt(j, 99));
            Edge.refused("2 ahead of 3", 2, x -> x.pourOut(j, 3));
            Edge.refused("2 ahead of 3 for two", 2, x -> x.atOnce(0, j, 3));
            Edge.refused("2 ahead of 5", 2, x -> x.clearest(0, j, 2));
            Edge.refused("1 ahead of 2", 1, x -> x.pourOut(j, 4));
            Edge.refused("1 ahead of 2 for two", 1, x -> x.atOnce(j, j, 4));
        }
    }

    private static void noSuchSound() {
        for (int s : NO_SOUNDS) {
            Edge.refused("echoed " + s, 2, x -> x.echoed(s, 0, 0));
            Edge.refused("beside " + s, 2, x -> x.beside(0, 1, s, 0));
        }
        Edge.refused("no SOUNDS", EchoJars::new, 2, x -> x.echoed(0, 0, 0));
        Edge.refused("no SOUNDS", EchoJars::new, 2, x -> x.beside(0, 1, 0, 0));
    }

    // Section 2: "on a DAY not ahead of the one ON which it was filled"; "On a DAY ahead of that .. nothing"
    private static void aheadOfItsDay() {
        String shop = "sound s abc;jar j size 3 leaks 1;fill j of s from 0 on 5;";
        EchoJars x = Edge.of(shop, "", 4);
        Check.fine("the day ahead", x, x.heard(0), 0);
        Check.refused("no LETTER", x, x.heardAt(0, 0), 8);
        Check.fine("none LOST", x, x.lost(0), 0);
        x.day(0);
        Check.fine("day 0", x, x.heard(0), 0);
        x.day(5);
        Texts.row("ON it", Texts.heard(x, 0), "abc");
        x.day(6);
        Texts.row("a day later", Texts.heard(x, 0), "bc");
        x = Edge.of("sound s abc;jar j size 3 leaks 0;fill j of s from 0 on 999;", "", 998);
        Check.fine("day 998", x, x.heard(0), 0);
        x.day(999);
        Check.fine("day 999", x, x.heard(0), 3);
    }

    // Section 2: "and of an EMPTY one: nothing, no LETTERS"
    private static void emptyIsNotHeard() {
        for (int day : new int[] {0, 1, 9999}) {
            EchoJars x = Edge.of("sound s abc;jar j size 3 leaks 1;", "", day);
            Check.fine("heard", x, x.heard(0), 0);
            Check.refused("no LETTER", x, x.heardAt(0, 0), 8);
            Check.fine("none LOST", x, x.lost(0), 0);
            Check.fine("LOUDEST of none", x, x.loudest(9, 1), 0);
        }
        Edge.asked("of a full one", 0, x -> x.heard(3));
    }

    // Terms: "LEAKS: every so many days (0 to 99) a LETTER goes"
    private static void leaksOnTheDay() {
        for (int leaks : new int[] {1, 2, 98, 99}) {
            EchoJars x = Edge.of("sound s abcd;jar j size 4 leaks " + leaks + " head;fill j of s from 0 on 7;", "", 0);
            for (int gone = 0; gone <= 4; gone++) {
                x.day(7 + gone * leaks);
                Check.fine("on its day, by " + leaks, x, x.heard(0), 4 - gone);
                Check.fine("LOST, by " + leaks, x, x.lost(0), gone);
                x.day(6 + (gone + 1) * leaks);
                Check.fine("a day ahead of the next, by " + leaks, x, x.heard(0), 4 - gone);
                Check.fine("LOST a day ahead, by " + leaks, x, x.lost(0), gone);
            }
        }
    }

    // Terms: "from its head, from its tail, or, with both or neither told, by turns, the head's first"
    private static void headTailTurns() {
        String[] sides = {" head", " tail", " head tail", ""};
        String[][] due = {{"abcde", "bcde", "cde", "de", "e", ""}, {"abcde", "abcd", "abc", "ab", "a", ""},
            {"abcde", "bcde", "bcd", "cd", "c", ""}, {"abcde", "bcde", "bcd", "cd", "c", ""}};
        for (int side = 0; side < 4; side++) {
            EchoJars x = Edge.of("sound s xabcde;jar j size 5 leaks 1" + sides[side] + ";fill j of s from 1 on 0;", "",
                    0);
            for (int day = 0; day < 6; day++) {
                x.day(day);
                Texts.row("day " + day + sides[side], Texts.heard(x, 0), due[side][day]);
            }
        }
    }

    // Terms: "(.. 0: never)"
    private static void neverLeaks() {
        EchoJars x = Edge.of("sound s abc;jar j size 3 leaks 0;fill j of s from 0 on 0;", "", 9999);
        Texts.row("on the last day", Texts.heard(x, 0), "abc");
        Check.fine("LOST", x, x.lost(0), 0);
    }

    private static void nothingIsLeft() {
        EchoJars x = Edge.of("sound s abc;jar j size 3 leaks 2;fill j of s from 0 on 0;", "", 6);
        Check.fine("on its last day", x, x.heard(0), 0);
        Check.refused("no LETTER", x, x.heardAt(0, 0), 8);
        x.day(9999);
        Check.fine("long behind it", x, x.heard(0), 0);
    }

    // Section 2: "LOST: how many have gone (all at most)"
    private static void lostAllAtMost() {
        EchoJars x = Edge.of("sound s ab;jar j size 5 leaks 1;fill j of s from 0 on 0;", "", 2);
        Check.fine("all", x, x.lost(0), 2);
        x.day(3);
        Check.fine("not more than there were", x, x.lost(0), 2);
        x.day(5);
        Check.fine("nor than its SIZE", x, x.lost(0), 2);
        x.day(9999);
        Check.fine("on the last day", x, x.lost(0), 2);
        Edge.asked("of an EMPTY one", 0, y -> y.lost(3));
    }

    // Promise 21: "The first day on which nothing is HEARD of it any more"
    private static void silentDays() {
        EchoJars x = Edge.of("sound s abc;jar j size 2 leaks 99;fill j of s from 0 on 999;", "", 0);
        Check.fine("from ahead of its day", x, x.silent(0), 1197);
        x.day(1196);
        Check.fine("the day ahead", x, x.heard(0), 1);
        x.day(1197);
        Check.fine("that day", x, x.heard(0), 0);
        x.day(9999);
        Check.fine("from behind it", x, x.silent(0), 1197);
        Edge.asked("of three that are left", 12, y -> y.silent(0));
    }

    // Promise 21: "8: EMPTY, never"
    private static void silentNever() {
        Edge.refused("EMPTY", 8, x -> x.silent(3));
        Edge.Makes never = () -> Edge.of("sound s a;jar j size 1 leaks 0;fill j of s from 0 on 0;", "", 0);
        Edge.refused("never", never, 8, x -> x.silent(0));
        Edge.Makes both = () -> Edge.of("sound s a;jar j size 1 leaks 1;", "", 0);
        Edge.refused("EMPTY, and leaks", both, 8, x -> x.silent(0));
    }

    // Promise 18: "8: none such"
    private static void heardPlaces() {
        Edge.asked("the first of inga", 9, x -> x.heardAt(0, 0));
        Edge.asked("the last of inga", 1, x -> x.heardAt(0, 3));
        for (int k : new int[] {-1, 4, 5, Integer.MIN_VALUE, Integer.MAX_VALUE}) {
            Edge.refused("place " + k, 8, x -> x.heardAt(0, k));
        }
        Edge.refused("of nothing", 8, x -> x.heardAt(3, 0));
    }

    // Promise 22: "of so many days (0 to 999)", what 0, 1, "(5)"
    private static void loudestDays() {
        for (int what = 0; what < 2; what++) {
            int asked = what;
            Edge.asked("0 days, what " + what, what == 0 ? 4 : 9, x -> x.loudest(0, asked));
            Edge.asked("999 days, what " + what, what == 0 ? 4 : 9, x -> x.loudest(999, asked));
            for (int days : new int[] {-1, 1000, Integer.MIN_VALUE, Integer.MAX_VALUE}) {
                Edge.refused("days " + days, 5, x -> x.loudest(days, asked));
            }
        }
        for (int what : new int[] {-1, 2, Integer.MIN_VALUE, Integer.MAX_VALUE}) {
            Edge.refused("what " + what, 5, x -> x.loudest(0, what));
        }
        Edge.same("of no JARS, the day", EchoJars::new, x -> x.loudest(999, 0), 0, 0);
        Edge.same("of no JARS, the LETTERS", EchoJars::new, x -> x.loudest(999, 1), 0, 0);
    }

    private static EchoJars peaks(int day) {
        return Edge.of("sound s abcdef;jar a size 3 leaks 1;jar b size 3 leaks 1;jar c size 6 leaks 0;"
                + "fill c of s from 0 on 999;fill b of s from 0 on 20;fill a of s from 0 on 10;", "", day);
    }

    private static void loud(EchoJars x, int days, int day, int letters) {
        Check.fine("LOUDEST day of " + days, x, x.loudest(days, 0), day);
        Check.fine("LETTERS of " + days, x, x.loudest(days, 1), letters);
    }

    // Section 2: "LOUDEST: the first day .. on which the most"
    private static void loudestFirstDay() {
        loud(peaks(0), 30, 10, 3);
        loud(peaks(10), 30, 10, 3);
        loud(peaks(11), 30, 20, 3);
        loud(peaks(13), 6, 13, 0);
        loud(peaks(21), 100, 21, 2);
        loud(peaks(12), 7, 12, 1);
        EchoJars x = Edge.of("sound s ab;jar a size 2 leaks 0;jar b size 1 leaks 1;fill a of s from 0 on 3;"
                + "fill b of s from 0 on 9;", "", 0);
        loud(x, 8, 3, 2);
        loud(x, 9, 9, 3);
        x.day(5);
        loud(x, 3, 5, 2);
        String later = "sound s abc;jar a size 3 leaks 1;jar b size 3 leaks 1;jar c size 2 leaks 1;"
                + "fill a of s from 0 on 30;fill b of s from 0 on 20;fill c of s from 0 on 10;";
        // a and b are alike, c comes earlier with fewer
        loud(Edge.of(later, "", 0), 99, 20, 3);
        loud(Edge.of(later, "", 0), 19, 10, 2);
        loud(Edge.of(later, "", 21), 99, 30, 3);
    }

    // Section 2: "from the DAY on, to so many days later"
    private static void loudestLastDay() {
        loud(peaks(0), 9, 0, 0);
        loud(peaks(0), 10, 10, 3);
        loud(peaks(0), 998, 10, 3);
        loud(peaks(0), 999, 999, 6);
        loud(peaks(9000), 999, 9000, 6);
        loud(peaks(9999), 999, 9999, 6);
        loud(peaks(9), 0, 9, 0);
        loud(peaks(9), 1, 10, 3);
    }

    // Section 2: "of all JARS together"
    private static void loudestTogether() {
        EchoJars x = Edge.of("sound s abcd;jar a size 4 leaks 2;jar b size 4 leaks 2;jar c size 4 leaks 1;"
                + "fill a of s from 0 on 2;fill b of s from 0 on 4;fill c of s from 0 on 9;", "", 0);
        // a 4 on 2, 3 on 4; b 4 on 4: 7; on 9: a 1, b 2, c 4: 7
        loud(x, 20, 4, 7);
        loud(x, 3, 2, 4);
        x.day(6);
        loud(x, 2, 6, 5);
        loud(x, 20, 9, 7);
        Edge.same("eight JARS, the day", Edge::eight, y -> y.loudest(9, 0), 1, 0);
        Edge.same("eight JARS, the LETTERS", Edge::eight, y -> y.loudest(9, 1), 96, 0);
    }

    // Section 5: "A row of LETTERS that comes to a TRAY needs as many places (4 else)"
    private static void rowsNeedPlaces() {
        Edge.refused("pourOut of four to three", 4, x -> x.pourOut(0, 2));
        Edge.refused("atOnce of four to three", 4, x -> x.atOnce(0, 1, 2));
        Edge.refused("atOnce, the longer one first or not", 4, x -> x.atOnce(1, 0, 2));
        Edge.refused("echoed of nine to three", 4, x -> x.echoed(0, 0, 2));
        Edge.refused("echoed of three a letter later", 4, x -> x.echoed(2, 1, 2));
        EchoJars x = Edge.emptyTape();
        Check.fine("pourOut of three to three", x, x.pourOut(1, 2), 3);
        Texts.row("gab", Texts.told(x, 2, 3), "gab");
        Check.fine("echoed of three to three", x, x.echoed(2, 0, 2), 3);
        Texts.row("zzz", Texts.told(x, 2, 3), "zzz");
        Check.fine("atOnce of three to three", x, x.atOnce(1, 2, 2), 3);
        Texts.row("gab and bl", Texts.told(x, 2, 3), "..b");
        x.tray(3, 0, 0);
        Check.fine("nothing HEARD needs none", x, x.pourOut(3, 3), 0);
        Check.fine("nor at once", x, x.atOnce(3, 3, 3), 0);
        Check.refused("one LETTER needs one", x, x.pourOut(2, 3), 4);
        x.tray(3, 0, 31);
        Texts.shop(x, "sound s abcdefghijklmnop;");
        Check.fine("16 LETTERS 15 later need 31", x, x.echoed(0, 15, 3), 31);
        x.tray(3, 0, 30);
        Check.refused("30 are too few", x, x.echoed(0, 15, 3), 4);
    }

    // Section 5: "and no numbers behind it change"
    private static void rowsChangeNothingBehind() {
        EchoJars x = Edge.full();
        Check.fine("pourOut", x, x.pourOut(1, 0), 3);
        Texts.row("behind gab", Texts.told(x, 0, 9), "gab.xyzab");
        Check.fine("atOnce", x, x.atOnce(0, 1, 0), 4);
        Texts.row("behind inga and gab", Texts.told(x, 0, 9), "...axyzab");
        Check.fine("echoed", x, x.echoed(2, 1, 0), 4);
        Texts.row("behind zzzz", Texts.told(x, 0, 9), "zzzzxyzab");
        Check.fine("nothing", x, x.pourOut(3, 0), 0);
        Texts.row("all is behind it", Texts.told(x, 0, 9), "zzzzxyzab");
        Texts.row("no other TRAY", Texts.told(x, 1, 6), "zyx.ab");
    }

    // Section 2: "where one has none (any more) there is a REST", "As long as the longer one"
    private static void restWhereOneHasNone() {
        EchoJars x = Edge.of("sound s abcd;sound t xy;jar a size 4 leaks 0;jar b size 2 leaks 0;jar e size 1 leaks 0;"
                + "fill a of s from 0 on 0;fill b of t from 0 on 0;",
                "mix any with rest gives first;mix rest with any gives q;mix any with any gives second;", 0);
        x.tray(0, 0, 4);
        Check.fine("the second is shorter", x, x.atOnce(0, 1, 0), 4);
        Texts.row("the second is shorter", Texts.told(x, 0, 4), "xycd");
        Check.fine("the first is shorter", x, x.atOnce(1, 0, 0), 4);
        Texts.row("the first is shorter", Texts.told(x, 0, 4), "abqq");
        Check.fine("the second is EMPTY", x, x.atOnce(1, 2, 0), 2);
        Texts.row("the second is EMPTY", Texts.told(x, 0, 4), "xyqq");
        Check.fine("the first is EMPTY", x, x.atOnce(2, 1, 0), 2);
        Texts.row("the first is EMPTY", Texts.told(x, 0, 4), "qqqq");
    }

    private static void aloneAndNone() {
        EchoJars x = Edge.full();
        Check.fine("of none no RESTS", x, x.atOnce(3, 3, 0), 0);
        Texts.row("stays", Texts.told(x, 0, 9), "abc.xyzab");
        Check.fine("with itself", x, x.atOnce(0, 0, 0), 4);
        Texts.row("with itself", Texts.told(x, 0, 4), "inga");
        x.day(1);
        Check.fine("ahead of the day of the first", x, x.atOnce(0, 1, 0), 4);
        Texts.row("gabe alone", Texts.told(x, 0, 4), "gabe");
    }

    // Section 2: "The first RULE of the LAW that fits both"
    private static void firstRuleThatFits() {
        EchoJars x = new EchoJars();
        Texts.law(x, "mix a with b gives c;mix a with b gives d;mix a with any gives e;mix any with b gives f;");
        Check.fine("the first of all", x, x.mixes(1, 2), 3);
        Check.fine("a later one", x, x.mixes(1, 3), 5);
        Check.fine("the last one", x, x.mixes(7, 2), 6);
        Check.fine("it must fit both", x, x.mixes(2, 1), 0);
        Texts.law(x, "mix a with any gives e;mix a with b gives c;");
        Check.fine("also if a later one fits better", x, x.mixes(1, 2), 5);
        StringBuilder twelve = new StringBuilder();
        for (char c = 'a'; c < 'm'; c++) {
            twelve.append("mix ").append(c).append(" with z gives y;");
        }
        Texts.law(x, twelve.toString());
        Check.fine("the last of twelve", x, x.mixes(12, 26), 25);
        Check.fine("none of twelve", x, x.mixes(13, 26), 0);
        Check.fine("none of twelve for RESTS", x, x.mixes(0, 0), 0);
    }

    // Terms: "KIND: a WORD of one letter": it fits that LETTER alone
    private static void letterFitsItself() {
        for (int letter : new int[] {1, 13, 26}) {
            char c = (char) ('a' + letter - 1);
            EchoJars x = new EchoJars();
            Texts.law(x, "mix " + c + " with " + c + " gives q;");
            for (int v = 0; v <= 26; v++) {
                int alone = v == letter ? 17 : v == 0 ? letter : 0;
                Check.fine(c + " first, " + v, x, x.mixes(letter, v), alone);
                Check.fine(c + " second, " + v, x, x.mixes(v, letter), alone);
                Check.fine("neither, " + v, x, x.mixes(v, v), v == letter ? 17 : v);
            }
        }
    }

    // Section 2: "(any: a letter or a REST; rest: a REST ..)"
    private static void anyFitsARest() {
        EchoJars x = new EchoJars();
        Texts.law(x, "mix rest with any gives q;mix any with rest gives r;");
        for (int v = 0; v <= 26; v++) {
            Check.fine("rest with any " + v, x, x.mixes(0, v), 17);
            Check.fine("any with rest " + v, x, x.mixes(v, 0), v == 0 ? 17 : 18);
            Check.fine("rest is no LETTER " + v, x, x.mixes(v, 26), v == 0 ? 17 : v == 26 ? 26 : 0);
        }
        Texts.law(x, "mix any with any gives rest;");
        for (int v = 0; v <= 26; v++) {
            Check.fine("gives a REST " + v, x, x.mixes(v, 26 - v), 0);
        }
    }

    // Section 2: "first, second: what that JAR has"
    private static void ruleGivesFirstOrSecond() {
        EchoJars x = new EchoJars();
        Texts.law(x, "mix a with any gives second;mix any with a gives first;mix rest with any gives first;"
                + "mix any with rest gives second;");
        Check.fine("second", x, x.mixes(1, 9), 9);
        Check.fine("second, a REST", x, x.mixes(1, 0), 0);
        Check.fine("first", x, x.mixes(9, 1), 9);
        Check.fine("first, a REST", x, x.mixes(0, 1), 0);
        Check.fine("first, a REST ahead of z", x, x.mixes(0, 26), 0);
        Check.fine("second, a REST behind z", x, x.mixes(26, 0), 0);
    }

    // Section 2: "without one: two alike give that, a REST and a LETTER the LETTER, two unlike letters a REST"
    private static void withoutARule() {
        for (int a = 0; a <= 26; a++) {
            EchoJars x = new EchoJars();
            for (int b = 0; b <= 26; b++) {
                int due = a == b ? a : a == 0 ? b : b == 0 ? a : 0;
                Check.same(a + " and " + b, x.mixes(a, b), due);
                Check.same("status", x.status(), 0);
            }
        }
    }

    // Promises 25 and 26: "(5: not 0 to 26)"
    private static void mixesNumbers() {
        Edge.asked("0 and 0, by a RULE", 18, x -> x.mixes(0, 0));
        Edge.asked("26 and 26", 26, x -> x.mixes(26, 26));
        Edge.asked("0 and 26", 26, x -> x.mixes(0, 26));
        Edge.asked("26 and 0", 26, x -> x.mixes(26, 0));
        for (int v : NO_LETTERS) {
            Edge.refused(v + " first", 5, x -> x.mixes(v, 0));
            Edge.refused(v + " second", 5, x -> x.mixes(0, v));
        }
    }

    private static void othersNumbers() {
        Edge.asked("behind z z", 1 | 1 << 26, x -> x.others(26, 26));
        Edge.asked("behind a REST r, by a RULE, or an r", 1 | 1 << 18, x -> x.others(0, 18));
        for (int v : NO_LETTERS) {
            Edge.refused(v + " first", 5, x -> x.others(v, 0));
            Edge.refused("gives " + v, 5, x -> x.others(0, v));
        }
    }

    // Section 2: "(a set: 1 for a REST, 2 for a ..)"
    private static void othersSets() {
        EchoJars x = new EchoJars();
        Check.fine("behind a REST a REST", x, x.others(0, 0), 1);
        Check.fine("behind a REST an a", x, x.others(0, 1), 2);
        Check.fine("behind a REST a z", x, x.others(0, 26), 1 << 26);
        Check.fine("behind a z a REST", x, x.others(26, 0), ALL - 1 - (1 << 26));
        Check.fine("behind a z a z", x, x.others(26, 26), 1 | 1 << 26);
        Check.fine("behind a z an a: none", x, x.others(26, 1), 0);
        Texts.law(x, "mix z with any gives a;");
        Check.fine("all", x, x.others(26, 1), ALL);
        Check.fine("none", x, x.others(26, 26), 0);
        Texts.law(x, "mix a with rest gives b;mix b with a gives b;");
        Check.fine("behind it, not ahead", x, x.others(1, 2), 1);
        Check.fine("the second of a RULE", x, x.others(2, 2), 1 | 1 << 1 | 1 << 2);
    }

    // Promise 27: "so many LETTERS (0 to 15) later"; section 2: "(RESTS ahead of it)"
    private static void echoedLater() {
        for (int later : new int[] {-1, 16, Integer.MIN_VALUE, Integer.MAX_VALUE}) {
            Edge.refused("later " + later, 5, x -> x.echoed(2, later, 0));
        }
        EchoJars x = Edge.full();
        x.tray(0, 1, 60);
        Check.fine("0 later", x, x.echoed(1, 0, 0), 5);
        Texts.row("0 later", Texts.told(x, 0, 6), "gable.");
        Check.fine("15 later", x, x.echoed(1, 15, 0), 20);
        Texts.row("RESTS by a RULE between", Texts.told(x, 0, 21), "gablerrrrrrrrrrgable.");
        Check.fine("5 later", x, x.echoed(1, 5, 0), 10);
        Texts.row("side by side", Texts.told(x, 0, 11), "gablegabler");
        Check.fine("6 later", x, x.echoed(1, 6, 0), 11);
        Texts.row("a REST between", Texts.told(x, 0, 11), "gablergable");
        Check.fine("1 later", x, x.echoed(2, 1, 0), 4);
        Texts.row("zzz", Texts.told(x, 0, 5), "zzzze");
    }

    // Promise 27: "in this order: 1, 2, 5, 3, 4"
    private static void echoedOrder() {
        Edge.refused("1 ahead of 2 and 5", 1, x -> x.echoed(3, 16, 4));
        Edge.refused("2 ahead of 5 and 3", 2, x -> x.echoed(3, 16, 3));
        Edge.refused("5 ahead of 3", 5, x -> x.echoed(0, 16, 3));
        Edge.refused("5 ahead of 4", 5, x -> x.echoed(0, 16, 2));
        Edge.refused("3", 3, x -> x.echoed(0, 15, 3));
        Edge.refused("4", 4, x -> x.echoed(0, 15, 2));
    }

    private static EchoJars clear(String first, String second, String law) {
        StringBuilder text = new StringBuilder("jar a size 12 leaks 0;jar b size 12 leaks 0;");
        if (!first.isEmpty()) {
            text.append("sound s ").append(first).append(";fill a of s from 0 on 0;");
        }
        if (!second.isEmpty()) {
            text.append("sound t ").append(second).append(";fill b of t from 0 on 0;");
        }
        return Edge.of(text.toString(), law, 0);
    }

    private static void clearest(String what, EchoJars x, int later, int letters) {
        Check.fine(what + ": later", x, x.clearest(0, 1, 0), later);
        Check.fine(what + ": LETTERS", x, x.clearest(0, 1, 1), letters);
    }

    // Section 2: "CLEAREST: so many LETTERS (0 to 12) later"
    private static void clearestLater() {
        clearest("12 later", clear("abcdefghijkl", "mmmmmmmmmmmm", ""), 12, 24);
        clearest("11 later", clear("abcdefghijkl", "lmmmmmmmmmmm", ""), 12, 24);
        clearest("11 of 11", clear("abcdefghijk", "mmmmmmmmmmmm", ""), 11, 23);
        clearest("0 later", clear("abc", "abcd", "mix any with rest gives rest;mix rest with any gives rest;"), 0, 3);
        // more than 12 later would have more still
        clearest("not 13 later", clear("a", "b", "mix rest with rest gives r;"), 12, 13);
    }

    // Section 2: "of several the least"
    private static void clearestOfSeveral() {
        clearest("1 to 12", clear("a", "b", ""), 1, 2);
        clearest("all alike", clear("abc", "xyz", "mix any with any gives rest;"), 0, 0);
        clearest("0 or 3", clear("aba", "a", "mix a with rest gives rest;mix b with any gives rest;"), 0, 1);
        clearest("2 or 3 and more", clear("ab", "cd", ""), 2, 4);
    }

    // Section 2: "(RESTS ahead of it, also if nothing is HEARD of it; the row is as long as both need)"
    private static void clearestRestsAhead() {
        String law = "mix rest with rest gives r;";
        clearest("nothing HEARD of the second", clear("ab", "", law), 12, 12);
        clearest("nothing HEARD of either", clear("", "", law), 12, 12);
        clearest("nothing HEARD of the first", clear("", "ab", law), 12, 14);
        clearest("behind the first one's end", clear("ab", "cd", law), 12, 14);
        clearest("nothing HEARD, without a LAW", clear("", "", ""), 0, 0);
        clearest("of the second alone", clear("", "ab", ""), 0, 2);
        clearest("RESTS ahead are by turns with its LETTERS",
                clear("aaa", "b", "mix a with rest gives c;mix a with b gives rest;mix rest with b gives rest;"), 3, 3);
    }

    // Promise 28: "what 0: how many later, 1: how many LETTERS (2; 5)"
    private static void clearestWhat() {
        // inga, eight RESTS that a RULE makes LETTERS, gab
        Edge.asked("what 0", 12, x -> x.clearest(0, 1, 0));
        Edge.asked("what 1", 15, x -> x.clearest(0, 1, 1));
        for (int what : new int[] {-1, 2, Integer.MIN_VALUE, Integer.MAX_VALUE}) {
            Edge.refused("what " + what, 5, x -> x.clearest(0, 1, what));
        }
    }

    // Promise 29: "the first so many numbers (1 to 8) of a TRAY"
    private static void besideHowMany() {
        Edge.Makes makes = () -> {
            EchoJars x = Edge.emptyTape();
            Texts.lay(x, 0, "zzzzzzzzz");
            Texts.law(x, "mix any with any gives z;");
            return x;
        };
        long rows = 1;
        for (int many = 1; many <= 8; many++) {
            rows *= 27;
            int asked = many;
            Edge.same("so many " + many, makes, x -> x.beside(0, asked, 0, 0), rows, 0);
        }
        Edge.refused("nine", makes, 5, x -> x.beside(0, 9, 0, 0));
        Edge.refused("ten of nine", makes, 4, x -> x.beside(0, 10, 0, 0));
        Edge.refused("none", makes, 5, x -> x.beside(0, 0, 0, 0));
        Edge.refused("-1", makes, 5, x -> x.beside(0, -1, 0, 0));
        Edge.refused("very few", makes, 5, x -> x.beside(0, Integer.MIN_VALUE, 0, 0));
        Edge.refused("very many", makes, 4, x -> x.beside(0, Integer.MAX_VALUE, 0, 0));
        Edge.refused("seven of six", 4, x -> x.beside(1, 7, 0, 0));
    }

    // Promise 29: "from a LETTER on (0 to 15)"
    private static void besideFrom() {
        for (int from : new int[] {-1, 16, Integer.MIN_VALUE, Integer.MAX_VALUE}) {
            Edge.refused("from " + from, 5, x -> x.beside(0, 1, 0, from));
        }
        EchoJars x = Edge.of("sound s abcdefghijklmnop;", "mix p with any gives q;mix o with any gives r;", 0);
        Texts.lay(x, 0, "rq");
        Check.fine("from 15: p", x, x.beside(0, 1, 0, 15), 0);
        Check.fine("from 14: o, p", x, x.beside(0, 2, 0, 14), 27 * 27);
        Texts.lay(x, 0, "q");
        Check.fine("from 15: p", x, x.beside(0, 1, 0, 15), 27);
        Texts.lay(x, 0, "a");
        Check.fine("from 0: a", x, x.beside(0, 1, 0, 0), 2);
    }

    // Promise 29: "also a number not 0 to 26"
    private static void besideNumbers() {
        for (int v : NO_LETTERS) {
            Edge.Makes makes = () -> withNumber(v);
            Edge.refused("number " + v, makes, 5, x -> x.beside(0, 3, 0, 0));
            Check.same("not asked behind so many", makes.made().beside(0, 2, 0, 0) >= 0 ? 1 : 0, 1);
        }
        EchoJars x = new EchoJars();
        Texts.shop(x, "sound s a;");
        x.tray(0, 3, 1);
        x.write(0, 0, (1L << 32) + 1);
        Check.refused("more than 32 bits", x, x.beside(0, 1, 0, 0), 5);
        Texts.lay(x, 0, "z.");
        Check.fine("26 and 0", x, x.beside(0, 2, 0, 1), 1);
    }

    private static EchoJars withNumber(int v) {
        EchoJars x = Edge.full();
        x.tray(0, 2, 4);
        x.write(0, 2, v);
        return x;
    }

    // Promise 29: "(1; 2; 3; 4; 5 ..; asked in this order)"
    private static void besideOrder() {
        Edge.refused("1 ahead of 2", 1, x -> x.beside(4, 99, 3, 16));
        Edge.refused("2 ahead of 3", 2, x -> x.beside(3, 99, 3, 16));
        Edge.refused("3 ahead of 4", 3, x -> x.beside(3, 99, 0, 16));
        Edge.refused("3 ahead of 5", 3, x -> x.beside(3, 0, 0, 16));
        Edge.refused("4 ahead of 5", 4, x -> x.beside(2, 4, 0, 16));
        Edge.refused("4 ahead of so many", 4, x -> x.beside(2, 9, 0, 0));
        Edge.refused("5 of below 0", 5, x -> x.beside(2, -1, 0, 0));
    }

    // Section 2: "(RESTS where it has none any more)"
    private static void besideRests() {
        EchoJars x = Edge.of("sound s ab;", "mix rest with any gives c;", 0);
        Texts.lay(x, 0, "abccc");
        Check.fine("its LETTERS", x, x.beside(0, 2, 0, 0), 4);
        Check.fine("a REST behind them", x, x.beside(0, 3, 0, 0), 4 * 27);
        Check.fine("RESTS behind them", x, x.beside(0, 5, 0, 0), 4 * 27 * 27 * 27);
        Texts.lay(x, 0, "ccc");
        Check.fine("RESTS alone", x, x.beside(0, 3, 0, 2), 27 * 27 * 27);
        Check.fine("RESTS alone from 15 on", x, x.beside(0, 3, 0, 15), 27 * 27 * 27);
        Check.fine("c behind b: none", x, x.beside(0, 3, 0, 1), 0);
    }

    // Promise 24: "for the first so many numbers (1 to 6) of a TRAY"
    private static void couplesHowMany() {
        Edge.Makes makes = () -> {
            EchoJars x = Edge.emptyTape();
            Texts.lay(x, 0, "zzzzzzzz");
            Texts.law(x, "mix any with any gives z;");
            return x;
        };
        long rows = 1;
        for (int many = 1; many <= 6; many++) {
            rows *= 676;
            int asked = many;
            Edge.same("so many " + many, makes, x -> x.couples(0, asked), rows, 0);
        }
        Edge.refused("seven", makes, 5, x -> x.couples(0, 7));
        Edge.refused("nine of eight", makes, 4, x -> x.couples(0, 9));
        Edge.refused("none", makes, 5, x -> x.couples(0, 0));
        Edge.refused("-1", makes, 5, x -> x.couples(0, -1));
        Edge.refused("very few", makes, 5, x -> x.couples(0, Integer.MIN_VALUE));
        Edge.refused("very many", makes, 4, x -> x.couples(0, Integer.MAX_VALUE));
    }

    // Promise 24: "also a number not 0 to 26"
    private static void couplesNumbers() {
        for (int v : NO_LETTERS) {
            Edge.Makes makes = () -> withNumber(v);
            Edge.refused("number " + v, makes, 5, x -> x.couples(0, 3));
            Check.is("not asked behind so many", makes.made().couples(0, 2) > 0);
        }
        EchoJars x = new EchoJars();
        x.tray(0, 3, 1);
        x.write(0, 0, (1L << 32) + 1);
        Check.refused("more than 32 bits", x, x.couples(0, 1), 5);
        Texts.lay(x, 0, "z.");
        Check.fine("26 and 0", x, x.couples(0, 2), 650);
    }

    // Promise 24: "(1; 3; 4; 5 ..; asked in this order)"
    private static void couplesOrder() {
        Edge.refused("1 ahead of all", 1, x -> x.couples(4, 7));
        Edge.refused("3 ahead of 4", 3, x -> x.couples(3, 99));
        Edge.refused("3 ahead of 5", 3, x -> x.couples(3, 0));
        Edge.refused("4 ahead of 5", 4, x -> x.couples(2, 7));
        Edge.refused("4", 4, x -> x.couples(2, 4));
        Edge.refused("5 of below 0", 5, x -> x.couples(2, -1));
    }

    // Section 2: "couples of LETTERS (no RESTS)"; "(by the LAW as it is)"
    private static void couplesByTheLaw() {
        EchoJars x = new EchoJars();
        Texts.lay(x, 0, "a.");
        Check.fine("a: two of a alone", x, x.couples(0, 1), 1);
        Check.fine("a REST: two unlike ones", x, x.couples(0, 2), 650);
        Texts.law(x, "mix rest with any gives a;mix any with rest gives a;");
        Check.fine("no RESTS", x, x.couples(0, 1), 1);
        Texts.law(x, "mix b with any gives a;mix any with b gives rest;");
        Check.fine("26 and one", x, x.couples(0, 1), 27);
        Check.fine("a by b is a REST as it was", x, x.couples(0, 2), 27L * (650 - 25));
        Texts.law(x, "mix a with a gives b;");
        Check.fine("none", x, x.couples(0, 1), 0);
        Texts.lay(x, 0, "z.a");
        Check.fine("z", x, x.couples(0, 1), 1);
        Check.fine("z again, as it was", x, x.couples(0, 1), 1);
        Check.fine("a REST as it was", x, x.couples(0, 2), 650);
    }
}
