/** The edges that section 4 and promises 50 to 53 name of the ROAD: a sentence a method. */
public final class RoadEdgesTest {
    private static final int[] NO_JARS = {-1, 4, 8, Integer.MIN_VALUE, Integer.MAX_VALUE};

    private RoadEdgesTest() {
    }

    public static void main(String[] args) {
        seeds();
        daysOfTheRoad();
        drawsByNumbers();
        lessThanItBreaks();
        onlyThoseThatAreWhole();
        lastOfEight();
        emptyOnesAreOnTheRoad();
        drawsWrapAround();
        nothingInTheShopChanges();
        brokeOnOrNot();
        brokeOnLatest();
        noSuchThing();
        oddsNumbers();
        oddsLastSeed();
        oddsOfSpeakers();
        oddsAreNoRoad();
        safeNumbers();
        safeEdges();
        doublesEdges();
        Check.finish();
    }

    // Section 4: "by a seed (0 to 9,999)"
    private static void seeds() {
        for (int seed : new int[] {-1, 10000, Integer.MIN_VALUE, Integer.MAX_VALUE}) {
            Edge.refused("seed " + seed, 5, x -> x.road(seed, 1));
            Edge.denied("odds from " + seed, 5, x -> x.odds(0, 1, seed, 1));
        }
        for (int seed : new int[] {0, 9999}) {
            EchoJars x = Edge.full();
            Check.fine("seed " + seed, x, x.road(seed, 1) & 11, 11);
        }
    }

    // Section 4: "for so many days (1 to 30)"
    private static void daysOfTheRoad() {
        for (int days : new int[] {-1, 0, 31, Integer.MIN_VALUE, Integer.MAX_VALUE}) {
            Edge.refused("days " + days, 5, x -> x.road(0, days));
            Edge.denied("odds for " + days, 5, x -> x.odds(0, days, 0, 1));
        }
        EchoJars x = Edge.full();
        Check.fine("one day", x, x.road(0, 1) & 11, 11);
        Check.fine("thirty days", x, x.road(0, 30) & 11, 11);
    }

    private static int next(int s) {
        return (int) ((s * 2683L + 9419L) % 65536L);
    }

    /** A JAR for each number with which it BREAKS. */
    private static EchoJars breaking(int... breaks) {
        StringBuilder text = new StringBuilder("sound s a;");
        for (int k = 0; k < breaks.length; k++) {
            char name = (char) ('a' + k);
            text.append("jar j").append(name).append(" size 1 leaks 0 breaks ").append(breaks[k]).append(";fill j")
                    .append(name).append(" of s from 0 on 0;");
        }
        return Edge.of(text.toString(), "", 0);
    }

    // Section 4: "each day, for each JAR that is whole yet, by numbers, a draw by 16"
    private static void drawsByNumbers() {
        // s 0: 9419, 49236, 54567: rests 1177, 6154, 6820 by 16: 9, 10, 4
        EchoJars x = breaking(10, 10, 4);
        Check.fine("9 breaks 10, 10 not 10, 4 not 4", x, x.road(0, 1), 6);
        x = breaking(9, 11, 5);
        Check.fine("9 not 9, 10 breaks 11, 4 breaks 5", x, x.road(0, 1), 1);
        x = breaking(9, 10);
        Check.fine("9 not 9, 10 not 10", x, x.road(0, 1), 3);
    }

    // Section 4: "less than it BREAKS: it is broken"
    private static void lessThanItBreaks() {
        // the first draw by seed 0 is 9
        for (int breaks = 0; breaks < 16; breaks++) {
            EchoJars x = breaking(breaks);
            Check.fine("9 and " + breaks, x, x.road(0, 1), breaks > 9 ? 0 : 1);
        }
        EchoJars x = breaking(0);
        for (int seed = 0; seed < 100; seed++) {
            Check.fine("0 never", x, x.road(seed, 30), 1);
        }
        x = breaking(15);
        int whole = 0;
        for (int seed = 0; seed < 100; seed++) {
            whole += x.road(seed, 1);
            boolean isFifteen = next(seed) / 8 % 16 == 15;
            Check.fine("15 but by a draw of 15", x, x.road(seed, 1), isFifteen ? 1 : 0);
        }
        Check.is("not always", whole > 0 && whole < 100);
    }

    // Section 4: "for each JAR that is whole yet": a broken one draws no more
    private static void onlyThoseThatAreWhole() {
        // seed 0 draws 9, 10, then 4, 1: if the first still drew, the second would break by 1 on day 2
        EchoJars x = breaking(10, 4);
        Check.fine("one day", x, x.road(0, 1), 2);
        Check.fine("two days", x, x.road(0, 2), 2);
        Check.fine("the first on day 1", x, x.brokeOn(0), 1);
        Check.refused("the second not yet", x, x.brokeOn(1), 8);
        Check.fine("three days", x, x.road(0, 3), 0);
        Check.fine("the second on day 3", x, x.brokeOn(1), 3);
    }

    // Terms: "JARS, at most 8": the last one draws the eighth on a day
    private static void lastOfEight() {
        int s = 0;
        for (int draw = 0; draw < 8; draw++) {
            s = next(s);
        }
        boolean breaks = s / 8 % 16 < 10;
        EchoJars x = Edge.eight();
        Check.fine("one day", x, x.road(0, 1), breaks ? 127 : 255);
        x.road(0, 30);
        Check.is("of thirty days", x.brokeOn(7) > 0);
        Check.refused("a ninth", x, x.brokeOn(8), 2);
        Check.done("odds", x, x.odds(7, 30, 0, 1));
        Check.fraction("odds", x, 0, 1);
        Check.denied("a ninth", x, x.odds(8, 30, 0, 1), 2);
        Check.done("safe", x, x.safe(7, 1, 0));
        Check.fraction("safe", x, 3, 8);
        Check.denied("a ninth", x, x.safe(8, 1, 0), 2);
    }

    private static void emptyOnesAreOnTheRoad() {
        EchoJars x = Edge.of("jar a size 1 leaks 0 breaks 10;jar b size 1 leaks 0 breaks 11;", "", 0);
        Check.fine("both draw", x, x.road(0, 1), 0);
        Check.fine("and break", x, x.brokeOn(1), 1);
        Edge.same("no JARS", EchoJars::new, y -> y.road(0, 30), 0, 0);
        Edge.same("no JARS by the last seed", EchoJars::new, y -> y.road(9999, 1), 0, 0);
    }

    // Section 4: "what is left of s times 2,683 and 9,419 by 65,536"
    private static void drawsWrapAround() {
        EchoJars x = breaking(1, 2, 4, 6, 8, 1, 3, 2);
        int[] breaks = {1, 2, 4, 6, 8, 1, 3, 2};
        for (int seed = 9; seed < 10000; seed += 1427) {
            int s = seed;
            int whole = 255;
            for (int day = 1; day <= 30; day++) {
                for (int jar = 0; jar < 8; jar++) {
                    if ((whole >> jar & 1) != 0) {
                        s = next(s);
                        whole = s / 8 % 16 < breaks[jar] ? whole & ~(1 << jar) : whole;
                    }
                }
                Check.fine("seed " + seed + " for " + day, x, x.road(seed, day), whole);
            }
        }
    }

    // Section 4: "Nothing in the SHOP changes"
    private static void nothingInTheShopChanges() {
        Edge.asked("the same ROAD again", 11, x -> x.road(1, 2));
        EchoJars x = breaking(15, 15);
        for (int seed = 0; seed < 5; seed++) {
            x.road(seed, 30);
            Check.fine("HEARD", x, x.heard(0), 1);
            Check.fine("BREAKS", x, x.jar(0, 5), 15);
            Check.fine("the DAY", x, x.many(3), 0);
            Check.fine("two JARS", x, x.many(1), 2);
        }
    }

    // Promise 51: "(1 the first) (2; 8: it did not, there was none)"
    private static void brokeOnOrNot() {
        Edge.asked("on the first day", 1, x -> x.brokeOn(2));
        Edge.refused("it did not", 8, x -> x.brokeOn(0));
        Edge.refused("an EMPTY one did not", 8, x -> x.brokeOn(3));
        Edge.refused("there was none", () -> breaking(15), 8, x -> x.brokeOn(0));
        EchoJars x = breaking(1);
        int day = 0;
        int s = 3;
        for (int d = 1; d <= 30 && day == 0; d++) {
            s = next(s);
            day = s / 8 % 16 < 1 ? d : 0;
        }
        Check.is("later than the first day", day > 1);
        x.road(3, day - 1);
        Check.refused("a day ahead", x, x.brokeOn(0), 8);
        x.road(3, day);
        Check.fine("that day", x, x.brokeOn(0), day);
        x.road(3, 30);
        Check.fine("of thirty days", x, x.brokeOn(0), day);
    }

    // Promise 51: "of road() latest with STATUS 0"
    private static void brokeOnLatest() {
        EchoJars x = breaking(10);
        x.road(0, 1);
        Check.refused("5", x, x.road(10000, 1), 5);
        Check.refused("5", x, x.road(0, 31), 5);
        Check.fine("it stays", x, x.brokeOn(0), 1);
        Check.refused("a FAULT", x, Texts.shop(x, "?"), 10);
        Check.fine("it stays by a FAULT", x, x.brokeOn(0), 1);
        x.day(77);
        Texts.law(x, "");
        Check.fine("and by another DAY, another LAW", x, x.brokeOn(0), 1);
        int seed = 0;
        while (next(seed) / 8 % 16 < 10) {
            seed++;
        }
        x.road(seed, 1);
        Check.refused("the latest", x, x.brokeOn(0), 8);
        x.road(0, 1);
        Texts.shop(x, "jar a size 1 leaks 0 breaks 15;");
        Check.refused("nobody was on the road", x, x.brokeOn(0), 8);
    }

    private static void noSuchThing() {
        for (int j : NO_JARS) {
            Edge.refused("brokeOn " + j, 2, x -> x.brokeOn(j));
            Edge.denied("safe " + j, 2, x -> x.safe(j, 1, 0));
            Edge.denied("2 ahead of 5: safe " + j, 2, x -> x.safe(j, 0, 2));
        }
        for (int s : new int[] {-1, 3, 8, Integer.MIN_VALUE, Integer.MAX_VALUE}) {
            Edge.denied("odds " + s, 2, x -> x.odds(s, 1, 0, 1));
            Edge.denied("2 ahead of 5: odds " + s, 2, x -> x.odds(s, 0, -1, 0));
        }
    }

    // Promise 52: "so many seeds (1 to 20)"
    private static void oddsNumbers() {
        for (int many : new int[] {-1, 0, 21, Integer.MIN_VALUE, Integer.MAX_VALUE}) {
            Edge.denied("seeds " + many, 5, x -> x.odds(0, 1, 0, many));
        }
        EchoJars x = breaking(8);
        int good = 0;
        for (int many = 1; many <= 20; many++) {
            good += next(100 + many - 1) / 8 % 16 < 8 ? 0 : 1;
            Check.done("seeds " + many, x, x.odds(0, 1, 100, many));
            Check.same("as many of " + many, x.top() * many, x.bottom() * good);
        }
        Check.is("neither none nor all", good > 0 && good < 20);
    }

    // Promise 52: "5: the last above 9,999, too"
    private static void oddsLastSeed() {
        EchoJars x = breaking(15);
        Check.done("9,999 alone", x, x.odds(0, 1, 9999, 1));
        Check.done("the last is 9,999", x, x.odds(0, 1, 9980, 20));
        Edge.denied("9,999 and one", 5, y -> y.odds(0, 1, 9999, 2));
        Edge.denied("the last is 10,000", 5, y -> y.odds(0, 1, 9981, 20));
        Edge.denied("it wraps around", 5, y -> y.odds(0, 1, Integer.MAX_VALUE, 20));
    }

    private static void odds(String what, EchoJars x, int sound, long top, long bottom) {
        Check.done(what, x, x.odds(sound, 1, 0, 4));
        Check.fraction(what, x, top, bottom);
    }

    // Promise 52: "a SOUND fits some JAR, with LETTERS HEARD on the DAY, that is whole behind the ROAD"
    private static void oddsOfSpeakers() {
        EchoJars x = Edge.of("sound s ab;sound t zb;jar i size 1 leaks 0;jar j size 2 leaks 0;jar k size 1 leaks 1;"
                + "fill j of s from 0 on 1;fill k of t from 0 on 0;", "", 0);
        odds("ab is not HEARD yet", x, 0, 0, 1);
        odds("z is", x, 1, 1, 1);
        x.day(1);
        odds("ab is HEARD", x, 0, 1, 1);
        odds("z is gone", x, 1, 0, 1);
        odds("no JARS", Edge.of("sound s a;", "", 0), 0, 0, 1);
        // the first draws by 0, 1, 2, 3
        int whole = 0;
        for (int seed = 0; seed < 4; seed++) {
            whole += next(seed) / 8 % 16 < 9 ? 0 : 1;
        }
        Check.is("some", whole == 1 || whole == 3 || whole == 2);
        odds("by those that break", breaking(9), 0, whole == 2 ? 1 : whole, whole == 2 ? 2 : 4);
        odds("one of two is enough", breaking(9, 0), 0, 1, 1);
    }

    private static void oddsAreNoRoad() {
        EchoJars x = breaking(10);
        Check.done("odds", x, x.odds(0, 1, 0, 1));
        Check.fraction("it breaks", x, 0, 1);
        Check.refused("nobody was on the road", x, x.brokeOn(0), 8);
        x.road(0, 1);
        Check.done("odds", x, x.odds(0, 1, 5, 20));
        Check.fine("the ROAD stays", x, x.brokeOn(0), 1);
    }

    // Promise 53: "(what 0) .. (1) for so many days (1 to 5) (2; 5)"
    private static void safeNumbers() {
        for (int what = 0; what < 2; what++) {
            int asked = what;
            for (int days : new int[] {-1, 0, 6, Integer.MIN_VALUE, Integer.MAX_VALUE}) {
                Edge.denied("days " + days, 5, x -> x.safe(0, days, asked));
            }
        }
        for (int what : new int[] {-1, 2, Integer.MIN_VALUE, Integer.MAX_VALUE}) {
            Edge.denied("what " + what, 5, x -> x.safe(0, 1, what));
        }
    }

    private static void safe(int breaks, int days, int what, long top, long bottom) {
        EchoJars x = breaking(breaks);
        Check.done("safe " + breaks + " for " + days, x, x.safe(0, days, what));
        Check.fraction("safe " + breaks + " for " + days + " what " + what, x, top, bottom);
    }

    // Section 4: "SAFE: the odds that a JAR is whole behind so many days"
    private static void safeEdges() {
        safe(0, 1, 0, 1, 1);
        safe(0, 5, 0, 1, 1);
        safe(1, 1, 0, 15, 16);
        safe(1, 5, 0, 759375, 1048576);
        safe(15, 1, 0, 1, 16);
        safe(15, 5, 0, 1, 1048576);
        safe(4, 2, 0, 9, 16);
        safe(8, 3, 0, 1, 8);
        EchoJars x = Edge.of("jar a size 1 leaks 0 breaks 8;", "", 0);
        Check.done("of an EMPTY one", x, x.safe(0, 1, 0));
        Check.fraction("of an EMPTY one", x, 1, 2);
    }

    // Section 4: "DOUBLES: that at least one of two alike is"
    private static void doublesEdges() {
        safe(0, 1, 1, 1, 1);
        safe(0, 5, 1, 1, 1);
        safe(8, 1, 1, 3, 4);
        safe(8, 2, 1, 7, 16);
        safe(1, 1, 1, 255, 256);
        safe(15, 1, 1, 31, 256);
        safe(15, 5, 1, 2097151, 1099511627776L);
        safe(1, 5, 1, 1099511627776L - 289201L * 289201L, 1099511627776L);
    }
}
