/** Promises 50 to 53: the ROAD, its odds, SAFE and DOUBLES. */
public final class RoadTest {
    private static final String ROAD = "sound s ab;sound t b;sound u ccc;jar a size 2 leaks 1 breaks 8;"
            + "jar b size 2 leaks 0;jar c size 3 leaks 0 breaks 15;jar d size 1 leaks 0 breaks 3;"
            + "fill a of s from 0 on 0;fill c of u from 0 on 2;fill d of t from 0 on 0;";

    private RoadTest() {
    }

    public static void main(String[] args) {
        byHand();
        road();
        odds();
        safe();
        Check.finish();
    }

    private static void byHand() {
        // s 1: 12102, 38765, 10282, 5369: draws 1512, 4845, 1285, 671 by 16: 8, 13, 5, 15
        EchoJars x = Texts.opened("jar a size 1 leaks 0 breaks 9;jar b size 1 leaks 0 breaks 13;"
                + "jar c size 1 leaks 0 breaks 6;jar d size 1 leaks 0 breaks 15;");
        Check.fine("a day", x, x.road(1, 1), 2 | 8);
        Check.fine("8 is less than 9", x, x.brokeOn(0), 1);
        Check.refused("13 is not less than 13", x, x.brokeOn(1), 8);
        Check.fine("5 is less than 6", x, x.brokeOn(2), 1);
        Check.refused("15 is not less than 15", x, x.brokeOn(3), 8);
    }

    private static int next(int s) {
        return (int) ((s * 2683L + 9419L) % 65536L);
    }

    private static void road() {
        EchoJars x = null;
        int[] breaks = {8, 0, 15, 3};
        for (int seed = 0; seed < 10000; seed += 1111) {
            x = Texts.opened(ROAD);
            int[] broke = new int[4];
            int s = seed;
            for (int day = 1; day <= 30; day++) {
                for (int jar = 0; jar < 4; jar++) {
                    if (broke[jar] == 0) {
                        s = next(s);
                        broke[jar] = s / 8 % 16 < breaks[jar] ? day : 0;
                    }
                }
                if (day % 7 == 1 || day == 30) {
                    tell(x, seed, day, broke);
                }
            }
        }
        Check.refused("seed 10000", x, x.road(10000, 1), 5);
        Check.refused("seed -1", x, x.road(-1, 1), 5);
        Check.refused("days 31", x, x.road(0, 31), 5);
        Check.refused("days 0", x, x.road(0, 0), 5);
        Check.fine("the latest stays", x, x.brokeOn(2), 1);
        x.odds(0, 30, 5, 20);
        Check.fine("odds are no road", x, x.brokeOn(2), 1);
        Check.fine("nothing in the SHOP changes", x, x.heard(0), 2);
        Check.refused("jar 4", x, x.brokeOn(4), 2);
        Check.refused("jar -1", x, x.brokeOn(-1), 2);
        x = Texts.opened(ROAD);
        Check.refused("there was none", x, x.brokeOn(2), 8);
        x = Texts.opened("jar a size 1 leaks 0 breaks 9;");
        x.road(1, 1);
        Check.fine("jar 0 broke", x, x.brokeOn(0), 1);
        Texts.shop(x, "jar a size 1 leaks 0 breaks 9;");
        Check.refused("nobody was on the road", x, x.brokeOn(0), 8);
        x = new EchoJars();
        Check.fine("no jars", x, x.road(9999, 30), 0);
    }

    private static void tell(EchoJars x, int seed, int day, int[] broke) {
        int whole = 0;
        for (int jar = 0; jar < 4; jar++) {
            whole |= broke[jar] == 0 ? 1 << jar : 0;
        }
        Check.fine("road " + seed + " " + day, x, x.road(seed, day), whole);
        for (int jar = 0; jar < 4; jar++) {
            if (broke[jar] == 0) {
                Check.refused("brokeOn " + jar, x, x.brokeOn(jar), 8);
            } else {
                Check.fine("brokeOn " + jar, x, x.brokeOn(jar), broke[jar]);
            }
        }
    }

    private static void odds() {
        EchoJars x = Texts.opened(ROAD);
        int[] speakers = {9, 8, 0};
        for (int sound = 0; sound < 3; sound++) {
            int good = 0;
            for (int seed = 40; seed < 60; seed++) {
                good += (x.road(seed, 3) & speakers[sound]) != 0 ? 1 : 0;
            }
            Check.done("odds " + sound, x, x.odds(sound, 3, 40, 20));
            Check.same("as many " + sound, x.top() * (20 / x.bottom()), good);
        }
        Check.fraction("no JAR with LETTERS", x, 0, 1);
        int good = 0;
        for (int many = 1; many <= 20; many++) {
            good += (x.road(699 + many, 2) & 9) != 0 ? 1 : 0;
            Check.done("odds of " + many, x, x.odds(0, 2, 700, many));
            Check.same("of " + many, x.top() * many, x.bottom() * good);
        }
        Check.is("some and not all", good > 0 && good < 20);
        x.day(9);
        Check.done("by those that are HEARD", x, x.odds(2, 1, 0, 1));
        Check.fraction("c broke or not", x, (x.road(0, 1) & 4) / 4, 1);
        Check.done("the last seed", x, x.odds(0, 30, 9999, 1));
        Check.done("the last seeds", x, x.odds(0, 30, 9980, 20));
        long top = x.top();
        Check.denied("above the last", x, x.odds(0, 30, 9981, 20), 5);
        Check.denied("seed 10000", x, x.odds(0, 30, 10000, 1), 5);
        Check.denied("seed -1", x, x.odds(0, 30, -1, 1), 5);
        Check.denied("no seeds", x, x.odds(0, 30, 0, 0), 5);
        Check.denied("21 seeds", x, x.odds(0, 30, 0, 21), 5);
        Check.denied("days 0", x, x.odds(0, 0, 0, 1), 5);
        Check.denied("days 31", x, x.odds(0, 31, 0, 1), 5);
        Check.denied("very many", x, x.odds(0, 1, 9999, Integer.MAX_VALUE), 5);
        Check.denied("sound 3", x, x.odds(3, 0, 0, 1), 2);
        Check.denied("sound -1", x, x.odds(-1, 1, 0, 1), 2);
        Check.same("refused ones leave the FRACTION", x.top(), top);
    }

    private static void safe() {
        EchoJars x = Texts.opened(ROAD);
        Check.done("safe 8", x, x.safe(0, 1, 0));
        Check.fraction("safe 8", x, 1, 2);
        Check.done("safe 8 for 5", x, x.safe(0, 5, 0));
        Check.fraction("safe 8 for 5", x, 1, 32);
        Check.done("doubles 8", x, x.safe(0, 1, 1));
        Check.fraction("doubles 8", x, 3, 4);
        Check.done("never", x, x.safe(1, 5, 1));
        Check.fraction("never", x, 1, 1);
        Check.done("15 for 5", x, x.safe(2, 5, 0));
        Check.fraction("15 for 5", x, 1, 1048576);
        Check.done("doubles 15 for 5", x, x.safe(2, 5, 1));
        Check.fraction("doubles 15 for 5", x, 2097151, 1099511627776L);
        Check.done("3 for 2", x, x.safe(3, 2, 0));
        Check.fraction("3 for 2", x, 169, 256);
        Check.done("doubles 3 for 2", x, x.safe(3, 2, 1));
        Check.fraction("doubles 3 for 2", x, 65536 - 87 * 87, 65536);
        Check.denied("days 6", x, x.safe(0, 6, 0), 5);
        Check.denied("days 0", x, x.safe(0, 0, 0), 5);
        Check.denied("what 2", x, x.safe(0, 1, 2), 5);
        Check.denied("what -1", x, x.safe(0, 1, -1), 5);
        Check.denied("jar 4", x, x.safe(4, 6, 0), 2);
        Check.denied("jar -1", x, x.safe(-1, 1, 0), 2);
        Check.fraction("as it was", x, 65536 - 87 * 87, 65536);
    }
}
