/** Promises 30 to 43: which sounds it was, rows put together, and what a jar should be filled with. */
public final class WasTest {
    private static final String WAS = "sound s abab;sound t babb;sound u cab;"
            + "jar a size 2 leaks 0;jar b size 3 leaks 0;jar c size 1 leaks 1;jar e size 9 leaks 3;"
            + "jar z size 4 leaks 0;"
            + "fill a of s from 0 on 0;fill b of t from 1 on 0;fill c of u from 0 on 0;fill z of s from 0 on 5;";

    private WasTest() {
    }

    public static void main(String[] args) {
        fits();
        places();
        speaksAndKinds();
        laps();
        merged();
        mergedOrder();
        since();
        far();
        common();
        chain();
        witness();
        fillFrom();
        Check.finish();
    }

    /** Jars without a leak that hold these rows, each of a sound of its own; a dash for an EMPTY one. */
    private static EchoJars holding(String... rows) {
        StringBuilder text = new StringBuilder();
        for (int k = 0; k < rows.length; k++) {
            char name = (char) ('a' + k);
            text.append("jar j").append(name).append(" size 12 leaks 0;");
            if (!rows[k].equals("-")) {
                text.append("sound s").append(name).append(' ').append(rows[k]).append(';');
                text.append("fill j").append(name).append(" of s").append(name).append(" from 0 on 0;");
            }
        }
        return Texts.opened(text.toString());
    }

    private static void fits() {
        EchoJars x = Texts.opened(WAS);
        int[] each = {7, 2, 4, 7, 7};
        for (int jar = 0; jar < 5; jar++) {
            Check.fine("fits " + jar, x, x.fits(1 << jar), each[jar]);
        }
        Check.fine("no jars fit all", x, x.fits(0), 7);
        Check.fine("two", x, x.fits(1 | 2), 2);
        Check.fine("none", x, x.fits(2 | 4), 0);
        Check.fine("all", x, x.fits(31), 0);
        x.day(1);
        Check.fine("gone fits all", x, x.fits(4), 7);
        x.day(5);
        Check.fine("filled by now", x, x.fits(16), 1);
        Check.refused("a set with others", x, x.fits(32), 2);
        Check.refused("-1", x, x.fits(-1), 2);
        Check.refused("very many", x, x.fits(Integer.MIN_VALUE), 2);
        x = new EchoJars();
        Check.fine("no sounds", x, x.fits(0), 0);
        Check.refused("no jars", x, x.fits(1), 2);
    }

    private static void places() {
        EchoJars x = Texts.opened(WAS);
        Check.fine("ab in abab", x, x.places(0, 0), 2);
        Check.fine("ab in babb", x, x.places(0, 1), 1);
        Check.fine("abb in abab", x, x.places(1, 0), 0);
        Check.fine("nothing", x, x.places(3, 0), 0);
        Check.refused("jar 5", x, x.places(5, 0), 2);
        Check.refused("sound 3", x, x.places(0, 3), 2);
        Check.refused("sound -1", x, x.places(0, -1), 2);
        x = holding("aa", "aaaaa");
        Check.fine("places that lap", x, x.places(0, 1), 4);
        Check.fine("a longer one", x, x.places(1, 0), 0);
        Check.fine("itself", x, x.places(1, 1), 1);
    }

    private static void speaksAndKinds() {
        EchoJars x = Texts.opened(WAS);
        Check.fine("speaks abab", x, x.speaks(0), 1);
        Check.fine("speaks babb", x, x.speaks(1), 3);
        Check.fine("speaks cab", x, x.speaks(2), 5);
        Check.refused("sound 3", x, x.speaks(3), 2);
        Check.refused("sound -1", x, x.speaks(-1), 2);
        Check.fine("kinds of ab, c", x, x.kinds(5), 3);
        Check.fine("kinds of ab, abb", x, x.kinds(3), 2);
        Check.fine("kinds of none heard", x, x.kinds(8 | 16), 0);
        Check.fine("kinds of no jars", x, x.kinds(0), 0);
        x.day(5);
        Check.fine("c is gone", x, x.kinds(31), 2);
        Check.fine("and abab is filled", x, x.speaks(0), 17);
        Check.refused("kinds of others", x, x.kinds(32), 2);
        Check.refused("kinds of -1", x, x.kinds(-1), 2);
    }

    private static void laps() {
        EchoJars x = holding("abcab", "cabxx", "ab", "aaa", "-");
        Check.fine("cab", x, x.laps(0, 1), 3);
        Check.fine("none", x, x.laps(1, 0), 0);
        Check.fine("fewer than either has", x, x.laps(0, 2), 0);
        Check.fine("ab of ab by one letter only", x, x.laps(2, 0), 0);
        Check.fine("with itself", x, x.laps(0, 0), 2);
        Check.fine("aaa", x, x.laps(3, 3), 2);
        Check.fine("nothing heard", x, x.laps(0, 4), 0);
        Check.fine("nothing heard first", x, x.laps(4, 0), 0);
        Check.refused("jar 5", x, x.laps(0, 5), 2);
        Check.refused("jar -1", x, x.laps(-1, 0), 2);
    }

    private static void row(EchoJars x, int jars, String due) {
        Check.fine("merged " + jars, x, x.merged(jars), due.length());
        Texts.row("merged " + jars, Texts.merged(x, jars), due);
        Check.refused("behind it", x, x.mergedAt(due.length()), 8);
    }

    private static void merged() {
        EchoJars x = holding("abcd", "cdef", "efab", "bc", "-", "abcd", "zz", "y");
        row(x, 0, "");
        row(x, 16, "");
        row(x, 1, "abcd");
        row(x, 1 | 2, "abcdef");
        row(x, 1 | 2 | 4, "abcdefab");
        row(x, 1 | 8, "abcd");
        row(x, 1 | 32, "abcd");
        row(x, 1 | 2 | 4 | 8 | 16 | 32, "abcdefab");
        row(x, 64 | 128, "yzz");
        row(x, 1 | 64 | 128, "abcdyzz");
        Check.refused("seven", x, x.merged(127), 5);
        Check.refused("others ahead of seven", x, x.merged(511), 2);
        Check.refused("-1", x, x.merged(-1), 2);
        Check.fine("refused ones change nothing", x, x.mergedAt(6), 26);
        Check.refused("k 7", x, x.mergedAt(7), 8);
        Check.refused("k -1", x, x.mergedAt(-1), 8);
        Texts.shop(x, "");
        Check.fine("the latest, also by another SHOP", x, x.mergedAt(6), 26);
        Check.fine("none", x, x.merged(0), 0);
        Check.refused("then none such", x, x.mergedAt(0), 8);
    }

    private static void mergedOrder() {
        EchoJars x = holding("ba", "ab", "b", "a", "aab", "baa");
        row(x, 1 | 2, "aba");
        row(x, 4 | 8, "ab");
        row(x, 16 | 32, "baab");
        row(x, 63, "baab");
        x = holding("ca", "ac", "cb");
        row(x, 7, "cacb");
        x = holding("abcdefghijkl", "mnopqrstuvwx", "bcdefghijklm");
        row(x, 7, "abcdefghijklmnopqrstuvwx");
        x = holding("zzzzzzzzzzzz", "yyyyyyyyyyyy", "xxxxxxxxxxxx", "wwwwwwwwwwww", "vvvvvvvvvvvv", "uuuuuuuuuuuu");
        row(x, 63, "u".repeat(12) + "v".repeat(12) + "w".repeat(12) + "x".repeat(12) + "y".repeat(12)
                + "z".repeat(12));
    }

    private static void since() {
        EchoJars x = Texts.opened("sound s abcde;jar a size 3 leaks 4;jar b size 9 leaks 0;jar c size 2 leaks 1;"
                + "fill a of s from 0 on 10;fill b of s from 0 on 7;");
        int[] first = {22, 18, 14, 10};
        for (int letters = 0; letters < 4; letters++) {
            Check.fine("first of " + letters, x, x.since(0, letters, 0), first[letters]);
        }
        Check.fine("last of 3", x, x.since(0, 3, 1), 13);
        Check.fine("last of 1", x, x.since(0, 1, 1), 21);
        Check.refused("no last of 0", x, x.since(0, 0, 1), 8);
        Check.refused("never 4", x, x.since(0, 4, 0), 8);
        Check.refused("never 4 for a last", x, x.since(0, 4, 1), 8);
        Check.fine("all it has", x, x.since(1, 5, 0), 7);
        Check.refused("for ever", x, x.since(1, 5, 1), 8);
        Check.refused("never fewer", x, x.since(1, 4, 0), 8);
        Check.refused("never none", x, x.since(1, 0, 0), 8);
        Check.refused("empty", x, x.since(2, 0, 0), 8);
        Check.refused("12", x, x.since(0, 12, 0), 8);
        Check.refused("13", x, x.since(0, 13, 0), 5);
        Check.refused("-1", x, x.since(0, -1, 0), 5);
        Check.refused("what 2", x, x.since(2, 0, 2), 5);
        Check.refused("jar 3", x, x.since(3, 13, 0), 2);
        Check.refused("jar -1", x, x.since(-1, 0, 0), 2);
    }

    private static void far() {
        EchoJars x = holding("kitten", "sitting", "-", "abc", "cab");
        int[][] due = {{0, 3, 6, 6}, {3, 0, 7, 7}, {6, 7, 3, 3}, {6, 7, 0, 2}, {6, 7, 2, 0}};
        for (int jar = 0; jar < 5; jar++) {
            for (int sound = 0; sound < 4; sound++) {
                // sounds are numbered as they stand: the EMPTY jar has none
                Check.fine("far " + jar + " " + sound, x, x.far(jar, sound), due[jar][sound]);
            }
        }
        Check.refused("jar 5", x, x.far(5, 0), 2);
        Check.refused("sound 4", x, x.far(0, 4), 2);
        x = Texts.opened("sound s abcdefghijklmnop;sound t zzzz;jar j size 12 leaks 0;fill j of t from 0 on 0;");
        Check.fine("sixteen", x, x.far(0, 0), 16);
    }

    private static void common() {
        EchoJars x = holding("ringabell", "gable", "label", "-", "zz");
        Check.fine("gab", x, x.common(0, 1), 3);
        Check.fine("abel", x, x.common(0, 2), 4);
        Check.fine("abl", x, x.common(1, 2), 2);
        Check.fine("itself", x, x.common(0, 0), 9);
        Check.fine("nothing heard", x, x.common(0, 3), 0);
        Check.fine("nothing in common", x, x.common(4, 0), 0);
        Check.refused("jar 5", x, x.common(5, 0), 2);
        Check.refused("jar -1", x, x.common(0, -1), 2);
    }

    private static void order(EchoJars x, int n, int... jars) {
        Check.fine("chain " + n, x, x.chain(n), jars.length);
        for (int k = 0; k < jars.length; k++) {
            Check.fine("chainAt " + k + " by " + n, x, x.chainAt(k), jars[k]);
        }
        Check.refused("behind it", x, x.chainAt(jars.length), 8);
    }

    private static void chain() {
        EchoJars x = holding("defab", "abcde", "xyabx", "xab", "-");
        // laps: 0-1 ab, 1-0 de, 2-3 x, 3-2 none of xyab.., 3-1 ab, 0 none of x
        order(x, 1, 2, 3, 1, 0);
        order(x, 2, 3, 1, 0);
        order(x, 3, 0);
        order(x, 11, 0);
        Check.refused("12", x, x.chain(12), 5);
        Check.refused("0", x, x.chain(0), 5);
        Check.fine("refused ones change nothing", x, x.chainAt(0), 0);
        Check.refused("k -1", x, x.chainAt(-1), 8);
        x = holding("-", "-");
        order(x, 1, 0);
        x = holding("aaa", "aaa", "aaa", "aaa", "aaa", "aaa", "aaa", "aaa");
        order(x, 2, 0, 1, 2, 3, 4, 5, 6, 7);
        order(x, 3, 0);
        Texts.shop(x, "jar a size 1 leaks 0;");
        order(x, 2, 0);
        x = new EchoJars();
        Check.refused("no jars", x, x.chain(1), 8);
        Check.refused("5 ahead of 8", x, x.chain(0), 5);
        x = holding("-");
        x.chain(1);
        Texts.shop(x, "");
        Check.fine("the latest, also by another SHOP", x, x.chainAt(0), 0);
    }

    private static void witness() {
        EchoJars x = Texts.opened("sound s abc;sound t abd;sound u ebc;sound v zzzz;"
                + "jar a size 2 leaks 0;jar b size 2 leaks 0;jar c size 2 leaks 0;jar e size 1 leaks 1;"
                + "fill a of s from 0 on 0;fill b of s from 1 on 0;fill c of t from 1 on 0;fill e of v from 0 on 1;");
        Check.fine("ab and bc", x, x.witness(0), 3);
        Check.fine("bd alone", x, x.witness(1), 4);
        Check.refused("none of ebc", x, x.witness(2), 8);
        Check.refused("none of zzzz yet", x, x.witness(3), 8);
        x.day(1);
        Check.fine("z", x, x.witness(3), 8);
        Check.refused("sound 4", x, x.witness(4), 2);
        Check.refused("sound -1", x, x.witness(-1), 2);
        x = Texts.opened("sound s abc;sound t xyz;jar a size 1 leaks 0;jar b size 1 leaks 0;"
                + "fill a of s from 0 on 0;fill b of s from 1 on 0;");
        Check.fine("the least as a number", x, x.witness(0), 1);
        x = Texts.opened("sound s abc;sound t abd;sound u ebc;jar a size 2 leaks 0;jar b size 2 leaks 0;"
                + "fill a of s from 0 on 0;fill b of s from 1 on 0;");
        Check.fine("all jars", x, x.witness(0), 3);
        x = Texts.opened("sound s abc;sound t abd;sound u ebc;jar a size 2 leaks 0;jar b size 2 leaks 0;"
                + "jar c size 3 leaks 0;fill a of s from 0 on 0;fill b of s from 1 on 0;fill c of s from 0 on 0;");
        Check.fine("one that is told later", x, x.witness(0), 4);
        x = Texts.opened("sound s abc;jar a size 1 leaks 0;");
        Check.fine("one sound needs no jars", x, x.witness(0), 0);
    }

    private static void fillFrom() {
        EchoJars x = Texts.opened("sound s abcab;sound u bca;jar h size 2 leaks 1 head;jar t size 2 leaks 1 tail;"
                + "jar n size 3 leaks 0;jar l size 9 leaks 1 head;jar b size 5 leaks 1;");
        // ab 2, bc 2, ca 2, ab 2, b 3 places; abc 1, bca 2, cab 1, ab 2, b 3
        Check.fine("two letters", x, x.fillFrom(0, 0, 0), 0);
        Check.fine("three letters", x, x.fillFrom(2, 0, 0), 0);
        Check.fine("three of bca", x, x.fillFrom(2, 1, 0), 0);
        // heads gone: b 3, c 2, a 3, b 3, none; tails gone: a 3, b 3, c 2, a 3, none
        Check.fine("a head less", x, x.fillFrom(0, 0, 1), 1);
        Check.fine("a tail less", x, x.fillFrom(1, 0, 1), 2);
        Check.refused("nothing is left", x, x.fillFrom(0, 0, 2), 8);
        Check.fine("never", x, x.fillFrom(2, 0, 999), 0);
        Check.fine("only one is left", x, x.fillFrom(3, 0, 4), 0);
        Check.refused("none is left", x, x.fillFrom(3, 0, 5), 8);
        Check.fine("all that there are", x, x.fillFrom(3, 0, 0), 0);
        // by turns, 4 gone: the third of five alone
        Check.fine("by turns", x, x.fillFrom(4, 0, 4), 0);
        Check.refused("by turns of three", x, x.fillFrom(4, 1, 4), 8);
        Check.refused("days 1000", x, x.fillFrom(0, 0, 1000), 5);
        Check.refused("days -1", x, x.fillFrom(0, 0, -1), 5);
        Check.refused("jar 5", x, x.fillFrom(5, 0, -1), 2);
        Check.refused("sound 2", x, x.fillFrom(0, 2, -1), 2);
        Check.refused("sound -1", x, x.fillFrom(0, -1, 0), 2);
    }
}
