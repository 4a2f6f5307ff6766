/** Promises 17 to 29: what is HEARD, LOST, LOUDEST, AT ONCE, and what may have been. */
public final class HeardTest {
    private static final String LEAKING = "sound s abcdefg;"
            + "jar h size 5 leaks 2 head;jar t size 5 leaks 2 tail;jar b size 5 leaks 2;jar n size 5 leaks 0;"
            + "jar e size 5 leaks 1;fill h of s from 1 on 3;fill t of s from 1 on 3;fill b of s from 1 on 3;"
            + "fill n of s from 4 on 3;";

    private HeardTest() {
    }

    public static void main(String[] args) {
        heard();
        lostAndSilent();
        loudest();
        pourOut();
        atOnce();
        mixes();
        others();
        couples();
        echoed();
        clearest();
        beside();
        Check.finish();
    }

    private static void heard() {
        EchoJars x = Texts.opened(LEAKING);
        String[] head = {"", "bcdef", "bcdef", "cdef", "cdef", "def", "def", "ef", "ef", "f", "f", "", ""};
        String[] tail = {"", "bcdef", "bcdef", "bcde", "bcde", "bcd", "bcd", "bc", "bc", "b", "b", "", ""};
        String[] both = {"", "bcdef", "bcdef", "cdef", "cdef", "cde", "cde", "de", "de", "d", "d", "", ""};
        for (int day = 2; day < 15; day++) {
            x.day(day);
            Texts.row("head on " + day, Texts.heard(x, 0), head[day - 2]);
            Texts.row("tail on " + day, Texts.heard(x, 1), tail[day - 2]);
            Texts.row("both on " + day, Texts.heard(x, 2), both[day - 2]);
            Texts.row("never on " + day, Texts.heard(x, 3), day < 3 ? "" : "efg");
            Texts.row("empty on " + day, Texts.heard(x, 4), "");
        }
        x.day(9999);
        Texts.row("never", Texts.heard(x, 3), "efg");
        Texts.row("long gone", Texts.heard(x, 2), "");
        x.day(5);
        Check.refused("heardAt behind", x, x.heardAt(0, 4), 8);
        Check.refused("heardAt ahead", x, x.heardAt(0, -1), 8);
        Check.refused("heardAt far", x, x.heardAt(0, Integer.MIN_VALUE), 8);
        Check.refused("heardAt of jar 5", x, x.heardAt(5, 0), 2);
        Check.refused("heard of jar 5", x, x.heard(5), 2);
        Check.refused("heard of jar -1", x, x.heard(-1), 2);
        Check.fine("fewer than it holds", x, x.jar(3, 6), 3);
    }

    private static void lostAndSilent() {
        EchoJars x = Texts.opened(LEAKING);
        Check.fine("ahead of its day", x, x.lost(0), 0);
        x.day(8);
        Check.fine("by day 8", x, x.lost(0), 2);
        Check.fine("never", x, x.lost(3), 0);
        Check.fine("empty", x, x.lost(4), 0);
        x.day(9000);
        Check.fine("all at most", x, x.lost(2), 5);
        Check.refused("jar 5", x, x.lost(5), 2);
        Check.fine("silent on", x, x.silent(0), 13);
        Check.fine("silent by turns", x, x.silent(2), 13);
        Check.refused("never silent", x, x.silent(3), 8);
        Check.refused("empty", x, x.silent(4), 8);
        Check.refused("jar -1", x, x.silent(-1), 2);
    }

    private static void loudest() {
        EchoJars x = Texts.opened("sound s abcd;jar a size 4 leaks 1;jar b size 3 leaks 2;jar c size 4 leaks 0;"
                + "fill a of s from 0 on 2;fill b of s from 0 on 4;");
        // 0 0 4 3 | 2+3 1+3 0+2 2 1 1 0
        int[] day = {0, 0, 2, 2, 4, 4, 4};
        int[] most = {0, 0, 4, 4, 5, 5, 5};
        for (int days = 0; days < 7; days++) {
            Check.fine("day " + days, x, x.loudest(days, 0), day[days]);
            Check.fine("letters " + days, x, x.loudest(days, 1), most[days]);
        }
        x.day(5);
        Check.fine("from today", x, x.loudest(999, 0), 5);
        Check.fine("from today", x, x.loudest(999, 1), 4);
        x.day(9999);
        Check.fine("from the last day", x, x.loudest(999, 0), 9999);
        Check.fine("nothing", x, x.loudest(999, 1), 0);
        Check.refused("days 1000", x, x.loudest(1000, 0), 5);
        Check.refused("days -1", x, x.loudest(-1, 0), 5);
        Check.refused("what 2", x, x.loudest(0, 2), 5);
        Check.refused("what -1", x, x.loudest(0, -1), 5);
        x = Texts.opened("sound s ab;jar a size 2 leaks 1;jar b size 2 leaks 1;jar c size 2 leaks 1;"
                + "fill a of s from 0 on 9;fill b of s from 0 on 3;fill c of s from 0 on 3;");
        Check.fine("both on 3", x, x.loudest(9, 0), 3);
        x = Texts.opened("sound s ab;jar a size 2 leaks 1;jar b size 2 leaks 1;"
                + "fill a of s from 0 on 9;fill b of s from 0 on 3;");
        Check.fine("the first of the best", x, x.loudest(9, 0), 3);
        Check.fine("of the best", x, x.loudest(9, 1), 2);
    }

    private static void pourOut() {
        EchoJars x = Texts.opened(LEAKING);
        x.day(5);
        x.tray(0, 0, 5);
        x.write(0, 4, 99);
        Check.fine("pourOut", x, x.pourOut(0, 0), 4);
        Texts.row("poured", Texts.told(x, 0, 4), "cdef");
        Check.fine("behind it", x, x.read(0, 4), 99);
        x.tray(1, 3, 4);
        Check.fine("just enough", x, x.pourOut(1, 1), 4);
        x.tray(1, 3, 3);
        Check.refused("too few places", x, x.pourOut(0, 1), 4);
        Check.fine("nothing came", x, x.read(1, 0), 0);
        Check.fine("nothing heard needs no place", x, x.pourOut(4, 1), 0);
        Check.refused("MISSING", x, x.pourOut(0, 2), 3);
        Check.refused("jar ahead of MISSING", x, x.pourOut(5, 2), 2);
        Check.refused("tray ahead of jar", x, x.pourOut(5, 4), 1);
        Check.refused("tray -1", x, x.pourOut(0, -1), 1);
    }

    private static EchoJars mixing() {
        EchoJars x = Texts.opened("sound s abca;sound t acb;jar a size 4 leaks 1 tail;jar b size 3 leaks 0;"
                + "jar c size 4 leaks 0;fill a of s from 0 on 0;fill b of t from 0 on 0;");
        x.tray(0, 1, 20);
        return x;
    }

    private static void atOnce() {
        EchoJars x = mixing();
        Check.fine("without a LAW", x, x.atOnce(0, 1, 0), 4);
        Texts.row("mixed", Texts.told(x, 0, 4), "a..a");
        x.write(0, 4, 7);
        Check.fine("the other way round", x, x.atOnce(1, 0, 0), 4);
        Texts.row("mixed", Texts.told(x, 0, 5), "a..ag");
        Check.fine("with itself", x, x.atOnce(1, 1, 0), 3);
        Texts.row("itself", Texts.told(x, 0, 3), "acb");
        Check.fine("with none", x, x.atOnce(2, 0, 0), 4);
        Texts.row("alone", Texts.told(x, 0, 4), "abca");
        Check.fine("of none", x, x.atOnce(2, 2, 0), 0);
        Texts.law(x, "mix b with any gives first;mix any with b gives second;mix a with a gives rest;"
                + "mix a with rest gives z;mix rest with any gives y;");
        Check.fine("by a LAW", x, x.atOnce(0, 1, 0), 4);
        Texts.row("mixed", Texts.told(x, 0, 4), ".bbz");
        Check.fine("as long as the longer one", x, x.atOnce(1, 0, 0), 4);
        Texts.row("mixed", Texts.told(x, 0, 4), ".bby");
        x.day(2);
        Check.fine("on a later day", x, x.atOnce(0, 1, 0), 3);
        Texts.row("ab and acb", Texts.told(x, 0, 3), ".bb");
        x.tray(1, 1, 2);
        Check.refused("too few places", x, x.atOnce(0, 1, 1), 4);
        Check.refused("MISSING", x, x.atOnce(0, 1, 2), 3);
        Check.refused("jar 3", x, x.atOnce(0, 3, 2), 2);
        Check.refused("jar -1", x, x.atOnce(-1, 0, 2), 2);
        Check.refused("tray 4", x, x.atOnce(0, 3, 4), 1);
    }

    private static void mixes() {
        EchoJars x = mixing();
        Check.fine("alike", x, x.mixes(3, 3), 3);
        Check.fine("two RESTS", x, x.mixes(0, 0), 0);
        Check.fine("unlike", x, x.mixes(3, 4), 0);
        Check.fine("first a REST", x, x.mixes(0, 26), 26);
        Check.fine("second a REST", x, x.mixes(26, 0), 26);
        Texts.law(x, "mix a with rest gives b;mix a with any gives second;mix any with any gives rest;"
                + "mix c with c gives c;");
        Check.fine("the first RULE", x, x.mixes(1, 0), 2);
        Check.fine("any is no REST here", x, x.mixes(1, 9), 9);
        Check.fine("any is a REST, too", x, x.mixes(0, 0), 0);
        Check.fine("never the last RULE", x, x.mixes(3, 3), 0);
        Check.fine("a letter is no REST", x, x.mixes(0, 1), 0);
        Texts.law(x, "mix any with rest gives first;mix rest with any gives second;mix any with any gives q;");
        Check.fine("first", x, x.mixes(5, 0), 5);
        Check.fine("second", x, x.mixes(0, 5), 5);
        Check.fine("first, a REST", x, x.mixes(0, 0), 0);
        Check.fine("else", x, x.mixes(5, 5), 17);
        Check.refused("27", x, x.mixes(0, 27), 5);
        Check.refused("-1", x, x.mixes(-1, 0), 5);
        Check.refused("far", x, x.mixes(Integer.MAX_VALUE, Integer.MIN_VALUE), 5);
    }

    private static void others() {
        EchoJars x = mixing();
        Check.fine("behind a REST a REST", x, x.others(0, 0), 1);
        Check.fine("behind a REST z", x, x.others(0, 26), 1 << 26);
        Check.fine("behind a an a", x, x.others(1, 1), 3);
        Check.fine("behind a a REST", x, x.others(1, 0), (1 << 27) - 1 - 3);
        Check.fine("behind a a b", x, x.others(1, 2), 0);
        Texts.law(x, "mix a with rest gives b;mix a with c gives b;mix b with a gives b;");
        Check.fine("by RULES", x, x.others(1, 2), 1 | 1 << 3);
        Check.fine("by RULES and without", x, x.others(2, 2), 1 | 1 << 1 | 1 << 2);
        Check.refused("27", x, x.others(27, 0), 5);
        Check.refused("gives 27", x, x.others(0, 27), 5);
        Check.refused("-1", x, x.others(-1, 0), 5);
        Check.refused("gives -1", x, x.others(0, -1), 5);
    }

    private static void couples() {
        EchoJars x = mixing();
        Texts.lay(x, 1, ".a.zzz");
        Check.fine("a REST of two unlike ones", x, x.couples(1, 1), 650);
        Check.fine("an a of two", x, x.couples(1, 2), 650);
        Check.fine("and a REST", x, x.couples(1, 3), 650 * 650);
        Check.fine("six", x, x.couples(1, 6), 650 * 650);
        Texts.lay(x, 2, "......");
        Check.fine("the most", x, x.couples(2, 6), 650L * 650 * 650 * 650 * 650 * 650);
        Texts.law(x, "mix any with any gives a;");
        Check.fine("by a LAW none", x, x.couples(1, 1), 0);
        Texts.lay(x, 2, "aaaaaaa");
        Check.fine("by a LAW all", x, x.couples(2, 6), 676L * 676 * 676 * 676 * 676 * 676);
        Check.refused("seven", x, x.couples(2, 7), 5);
        Check.refused("eight", x, x.couples(2, 8), 4);
        Check.refused("none", x, x.couples(2, 0), 5);
        Check.refused("-1", x, x.couples(2, -1), 5);
        x.write(2, 1, 27);
        Check.refused("a 27", x, x.couples(2, 2), 5);
        Check.fine("behind those", x, x.couples(2, 1), 676);
        x.write(2, 1, -1);
        Check.refused("a -1", x, x.couples(2, 2), 5);
        x.tray(3, 3, 1);
        x.write(3, 0, 1L << 32);
        Check.refused("2 to the 32nd", x, x.couples(3, 1), 5);
        x = new EchoJars();
        Check.refused("MISSING", x, x.couples(2, 7), 3);
        Check.refused("tray 4", x, x.couples(4, 7), 1);
    }

    private static void echoed() {
        EchoJars x = mixing();
        Check.fine("not later", x, x.echoed(0, 0, 0), 4);
        Texts.row("as it is", Texts.told(x, 0, 4), "abca");
        Check.fine("3 later", x, x.echoed(0, 3, 0), 7);
        Texts.row("3 later", Texts.told(x, 0, 7), "abcabca");
        Check.fine("1 later", x, x.echoed(0, 1, 0), 5);
        Texts.row("1 later", Texts.told(x, 0, 5), "a...a");
        Check.fine("15 later", x, x.echoed(0, 15, 0), 19);
        Texts.row("15 later", Texts.told(x, 0, 19), "abca...........abca");
        Texts.law(x, "mix rest with rest gives r;mix b with a gives second;mix rest with c gives k;");
        Check.fine("by a LAW", x, x.echoed(0, 6, 0), 10);
        Texts.row("by a LAW", Texts.told(x, 0, 10), "abcarrabka");
        Check.fine("by a LAW 1 later", x, x.echoed(0, 1, 0), 5);
        Texts.row("by a LAW 1 later", Texts.told(x, 0, 5), "aa..a");
        x.tray(1, 0, 4);
        Check.refused("too few places", x, x.echoed(0, 1, 1), 4);
        Check.refused("MISSING", x, x.echoed(0, 1, 2), 3);
        Check.refused("16 ahead of MISSING", x, x.echoed(0, 16, 2), 5);
        Check.refused("16 ahead of places", x, x.echoed(0, 16, 1), 5);
        Check.refused("-1", x, x.echoed(0, -1, 2), 5);
        Check.refused("sound ahead of 16", x, x.echoed(2, 16, 2), 2);
        Check.refused("sound -1", x, x.echoed(-1, 0, 0), 2);
        Check.refused("tray ahead of sound", x, x.echoed(2, 16, 4), 1);
    }

    private static void clearest() {
        EchoJars x = mixing();
        // abca and acb: 0 later a..a; 3 later abcacb; 4 later abcaacb
        Check.fine("later", x, x.clearest(0, 1, 0), 4);
        Check.fine("letters", x, x.clearest(0, 1, 1), 7);
        // abca with itself 4 later has 8, 3 later 7
        Check.fine("itself later", x, x.clearest(0, 0, 0), 4);
        Check.fine("itself letters", x, x.clearest(0, 0, 1), 8);
        Check.fine("nothing heard of it: the least", x, x.clearest(0, 2, 0), 0);
        Check.fine("letters of the first", x, x.clearest(0, 2, 1), 4);
        Check.fine("of none", x, x.clearest(2, 2, 0), 0);
        Check.fine("no letters", x, x.clearest(2, 2, 1), 0);
        Texts.law(x, "mix rest with rest gives a;");
        Check.fine("RESTS ahead, also of none", x, x.clearest(2, 2, 0), 12);
        Check.fine("twelve", x, x.clearest(2, 2, 1), 12);
        Check.fine("RESTS behind the first", x, x.clearest(0, 1, 0), 12);
        Check.fine("fifteen", x, x.clearest(0, 1, 1), 15);
        Texts.law(x, "mix any with rest gives rest;mix rest with any gives rest;mix any with any gives a;");
        Check.fine("only together", x, x.clearest(0, 1, 0), 0);
        Check.fine("three", x, x.clearest(0, 1, 1), 3);
        x.day(2);
        Check.fine("ab and acb", x, x.clearest(0, 1, 1), 2);
        Check.refused("what 2", x, x.clearest(0, 1, 2), 5);
        Check.refused("what -1", x, x.clearest(0, 1, -1), 5);
        Check.refused("jar 3", x, x.clearest(0, 3, 2), 2);
        Check.refused("jar -1", x, x.clearest(-1, 0, 0), 2);
    }

    private static void beside() {
        EchoJars x = mixing();
        Texts.lay(x, 1, "a.caz...");
        // behind a: a or a REST give a; 25 give a REST for b; c; a; then a REST in the sound: only z
        Check.fine("one", x, x.beside(1, 1, 0, 0), 2);
        Check.fine("two", x, x.beside(1, 2, 0, 0), 50);
        Check.fine("three", x, x.beside(1, 3, 0, 0), 100);
        Check.fine("four", x, x.beside(1, 4, 0, 0), 200);
        Check.fine("a REST where it has none any more", x, x.beside(1, 5, 0, 0), 200);
        Check.fine("eight", x, x.beside(1, 8, 0, 0), 200);
        Check.fine("from 3 on", x, x.beside(1, 1, 0, 3), 2);
        Check.fine("from 1 on", x, x.beside(1, 1, 0, 1), 0);
        Check.fine("from 15 on", x, x.beside(1, 8, 0, 15), 1);
        Texts.law(x, "mix a with rest gives b;mix rest with any gives z;");
        Check.fine("a then by a LAW", x, x.beside(1, 1, 0, 0), 1);
        Check.fine("all behind it", x, x.beside(1, 5, 0, 15), 0);
        Texts.lay(x, 1, "zzzzzzzzz");
        Check.fine("27 each", x, x.beside(1, 8, 0, 4), 282429536481L);
        Check.refused("nine", x, x.beside(1, 9, 0, 4), 5);
        Check.refused("ten", x, x.beside(1, 10, 0, 16), 4);
        Check.refused("none", x, x.beside(1, 0, 0, 4), 5);
        Check.refused("from 16", x, x.beside(1, 1, 0, 16), 5);
        Check.refused("from -1", x, x.beside(1, 1, 0, -1), 5);
        x.write(1, 2, 27);
        Check.refused("a 27", x, x.beside(1, 3, 0, 4), 5);
        Check.refused("MISSING", x, x.beside(2, 10, 0, 16), 3);
        Check.refused("sound ahead of MISSING", x, x.beside(2, 10, 2, 16), 2);
        Check.refused("tray ahead of sound", x, x.beside(4, 10, 2, 16), 1);
        Check.refused("tray -1", x, x.beside(-1, 1, 0, 0), 1);
    }
}
