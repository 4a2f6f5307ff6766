/** The edges that section 3 and promises 30 to 43 name, with those of section 5 on their STATUS: a sentence a method. */
public final class WasEdgesTest {
    private static final int[] NO_JARS = {-1, 4, 8, Integer.MIN_VALUE, Integer.MAX_VALUE};
    private static final int[] NO_SOUNDS = {-1, 3, 8, Integer.MIN_VALUE, Integer.MAX_VALUE};
    private static final int[] OTHER_SETS = {-1, 16, 17, 1 << 8, 1 << 31, Integer.MAX_VALUE};

    private WasEdgesTest() {
    }

    public static void main(String[] args) {
        lastOfEight();
        noSuchJar();
        noSuchSound();
        setsWithOthers();
        setsOfEightJars();
        fitsEachOfASet();
        nothingHeardFitsAll();
        noSoundsFit();
        placesOfNothing();
        placesAlongASound();
        speaksByHeardLetters();
        kindsAltogether();
        lapsFewerThanEither();
        lapsTheMost();
        lapsOfNothing();
        mergedAtMostSix();
        mergedOfEight();
        mergedOfNothing();
        mergedShortest();
        mergedFirstByAlphabet();
        mergedAtPlaces();
        mergedLatest();
        sinceNumbers();
        sinceThereIsNone();
        sinceFirstAndLast();
        farOfNothing();
        farKinds();
        commonSideBySide();
        chainNumbers();
        chainOfNoJars();
        chainOfOne();
        chainNoneTwice();
        chainFirst();
        chainAtPlaces();
        chainLatest();
        witnessNone();
        witnessFewest();
        witnessLeast();
        fillFromDays();
        fillFromNothing();
        fillFromPlaces();
        fillFromFirst();
        fillFromSize();
        Check.finish();
    }

    /** Jars without a leak that hold these rows, each of a sound of its own; a dash for an EMPTY one. */
    private static EchoJars holding(String... rows) {
        StringBuilder text = new StringBuilder();
        for (int k = 0; k < rows.length; k++) {
            char name = (char) ('a' + k);
            text.append("jar j").append(name).append(" size 12 leaks 0;");
            if (!rows[k].equals("-")) {
                text.append("sound s").append(name).append(' ').append(rows[k]).append(';');
                text.append("fill j").append(name).append(" of s").append(name).append(" from 0 on 0;");
            }
        }
        return Edge.of(text.toString(), "", 0);
    }

    // STATUS "2 no such SOUND, JAR"
    private static void noSuchJar() {
        for (int j : NO_JARS) {
            Edge.refused("places " + j, 2, x -> x.places(j, 0));
            Edge.refused("laps a " + j, 2, x -> x.laps(j, 0));
            Edge.refused("laps b " + j, 2, x -> x.laps(0, j));
            Edge.refused("since " + j, 2, x -> x.since(j, 0, 0));
            Edge.refused("far " + j, 2, x -> x.far(j, 0));
            Edge.refused("common a " + j, 2, x -> x.common(j, 0));
            Edge.refused("common b " + j, 2, x -> x.common(0, j));
            Edge.refused("fillFrom " + j, 2, x -> x.fillFrom(j, 0, 0));
            Edge.refused("2 ahead of 5 for since", 2, x -> x.since(j, 13, 2));
            Edge.refused("2 ahead of 5 for fillFrom", 2, x -> x.fillFrom(j, 0, 1000));
        }
    }

    private static void noSuchSound() {
        for (int s : NO_SOUNDS) {
            Edge.refused("places " + s, 2, x -> x.places(0, s));
            Edge.refused("speaks " + s, 2, x -> x.speaks(s));
            Edge.refused("far " + s, 2, x -> x.far(0, s));
            Edge.refused("witness " + s, 2, x -> x.witness(s));
            Edge.refused("fillFrom " + s, 2, x -> x.fillFrom(0, s, 0));
            Edge.refused("2 ahead of 5", 2, x -> x.fillFrom(0, s, -1));
        }
        Edge.refused("no SOUNDS", EchoJars::new, 2, x -> x.speaks(0));
        Edge.refused("no SOUNDS", EchoJars::new, 2, x -> x.witness(0));
    }

    // Terms: "SOUNDS, at most 8", "JARS, at most 8": what is asked of the last, and of a ninth
    private static void lastOfEight() {
        Edge.same("places", Edge::eight, x -> x.places(7, 7), 5, 0);
        Edge.same("speaks", Edge::eight, x -> x.speaks(7), 128, 0);
        Edge.same("kinds", Edge::eight, x -> x.kinds(128), 1, 0);
        Edge.same("kinds of all", Edge::eight, x -> x.kinds(255), 8, 0);
        Edge.same("laps", Edge::eight, x -> x.laps(7, 7), 11, 0);
        Edge.same("since", Edge::eight, x -> x.since(7, 12, 1), 1, 0);
        Edge.same("far", Edge::eight, x -> x.far(7, 7), 4, 0);
        Edge.same("far from the first", Edge::eight, x -> x.far(7, 0), 16, 0);
        Edge.same("common", Edge::eight, x -> x.common(7, 7), 12, 0);
        Edge.same("common with the first", Edge::eight, x -> x.common(0, 7), 0, 0);
        Edge.same("witness", Edge::eight, x -> x.witness(7), 128, 0);
        Edge.same("fillFrom", Edge::eight, x -> x.fillFrom(7, 7, 0), 0, 0);
        Edge.refused("fillFrom of nothing", Edge::eight, 8, x -> x.fillFrom(7, 7, 12));
        Edge.refused("places of a ninth", Edge::eight, 2, x -> x.places(8, 7));
        Edge.refused("places in a ninth", Edge::eight, 2, x -> x.places(7, 8));
        Edge.refused("speaks of a ninth", Edge::eight, 2, x -> x.speaks(8));
        Edge.refused("witness of a ninth", Edge::eight, 2, x -> x.witness(8));
    }

    // STATUS "2 .. a set with others"
    private static void setsWithOthers() {
        for (int set : OTHER_SETS) {
            Edge.refused("fits " + set, 2, x -> x.fits(set));
            Edge.refused("kinds " + set, 2, x -> x.kinds(set));
            Edge.refused("merged " + set, 2, x -> x.merged(set));
        }
        for (int set = 0; set < 16; set++) {
            int asked = set;
            EchoJars x = Edge.full();
            Check.is("fits " + set, x.fits(asked) >= 0);
            Check.is("kinds " + set, x.kinds(asked) >= 0);
            Check.is("merged " + set, x.merged(asked) >= 0);
        }
        for (int set : new int[] {1, -1}) {
            Edge.refused("no JARS: fits", EchoJars::new, 2, x -> x.fits(set));
            Edge.refused("no JARS: kinds", EchoJars::new, 2, x -> x.kinds(set));
            Edge.refused("no JARS: merged", EchoJars::new, 2, x -> x.merged(set));
        }
    }

    private static void setsOfEightJars() {
        Edge.Makes eight = () -> holding("a", "b", "c", "d", "e", "f", "g", "h");
        Edge.same("fits of all", eight, x -> x.fits(255), 0, 0);
        Edge.same("fits of the last", eight, x -> x.fits(128), 128, 0);
        Edge.same("kinds of all", eight, x -> x.kinds(255), 8, 0);
        for (int set : new int[] {256, 257, -1, Integer.MIN_VALUE}) {
            Edge.refused("fits " + set, eight, 2, x -> x.fits(set));
            Edge.refused("kinds " + set, eight, 2, x -> x.kinds(set));
            Edge.refused("merged " + set, eight, 2, x -> x.merged(set));
        }
    }

    // Section 3: "of a set of JARS: SOUNDS that fit each of them"
    private static void fitsEachOfASet() {
        EchoJars x = holding("abc", "bcd", "bc", "abcd", "xx");
        int[] each = {1 | 8, 2 | 8, 1 | 2 | 4 | 8, 8, 16};
        for (int set = 0; set < 32; set++) {
            int due = 31;
            for (int jar = 0; jar < 5; jar++) {
                due &= (set >> jar & 1) != 0 ? each[jar] : 31;
            }
            Check.fine("fits " + set, x, x.fits(set), due);
        }
    }

    // Section 3: "nothing HEARD fits all"
    private static void nothingHeardFitsAll() {
        Edge.asked("no JARS of four", 7, x -> x.fits(0));
        Edge.asked("an EMPTY one", 7, x -> x.fits(8));
        Edge.asked("an EMPTY one and another", 1, x -> x.fits(9));
        String shop = "sound s ab;sound t cd;jar j size 1 leaks 1;fill j of s from 0 on 1;";
        Edge.same("ahead of its day", () -> Edge.of(shop, "", 0), x -> x.fits(1), 3, 0);
        Edge.same("ON it", () -> Edge.of(shop, "", 1), x -> x.fits(1), 1, 0);
        Edge.same("all is gone", () -> Edge.of(shop, "", 2), x -> x.fits(1), 3, 0);
    }

    private static void noSoundsFit() {
        Edge.same("no SOUNDS at all", EchoJars::new, x -> x.fits(0), 0, 0);
        Edge.Makes jarsAlone = () -> Edge.of("jar j size 1 leaks 0;", "", 0);
        Edge.same("no SOUNDS for a JAR", jarsAlone, x -> x.fits(1), 0, 0);
        EchoJars x = Edge.of("sound s a;sound t ab;sound u b;jar j size 2 leaks 0;fill j of t from 0 on 0;", "", 0);
        Check.fine("a SOUND that is shorter does not", x, x.fits(1), 2);
        x = holding("a", "b", "c", "d", "e", "f", "g", "a");
        Check.fine("eight SOUNDS", x, x.fits(0), 255);
        Check.fine("the first and the last", x, x.fits(1), 129);
    }

    // Promise 31: "of nothing: 0"
    private static void placesOfNothing() {
        for (int sound = 0; sound < 3; sound++) {
            int asked = sound;
            Edge.asked("of an EMPTY one in " + sound, 0, x -> x.places(3, asked));
        }
        Edge.same("ahead of its day", () -> Edge.of("sound s a;jar j size 1 leaks 0;fill j of s from 0 on 1;", "", 0),
                x -> x.places(0, 0), 0, 0);
    }

    // Section 3: "at how many places it stands"
    private static void placesAlongASound() {
        EchoJars x = holding("a", "aaaa", "aa", "ba", "ab", "abab");
        int[][] due = {{1, 4, 2, 1, 1, 2}, {0, 1, 0, 0, 0, 0}, {0, 3, 1, 0, 0, 0}, {0, 0, 0, 1, 0, 1}, {0, 0, 0, 0, 1, 2}};
        for (int jar = 0; jar < due.length; jar++) {
            for (int sound = 0; sound < 6; sound++) {
                Check.fine("places " + jar + " " + sound, x, x.places(jar, sound), due[jar][sound]);
            }
        }
        x = Edge.of("sound s aaaaaaaaaaaaaaaa;jar j size 1 leaks 0;fill j of s from 15 on 0;", "", 0);
        Check.fine("sixteen", x, x.places(0, 0), 16);
        x = Edge.of("sound s aaaaaaaaaaaaaaaa;jar j size 12 leaks 0;fill j of s from 0 on 0;", "", 0);
        Check.fine("five", x, x.places(0, 0), 5);
    }

    // Promise 32: "The set of JARS of which LETTERS are HEARD that stand in a SOUND"
    private static void speaksByHeardLetters() {
        Edge.asked("gab and bl, not inga, not the EMPTY one", 2 | 4, x -> x.speaks(1));
        EchoJars x = Edge.of("sound s ab;sound t zb;jar i size 1 leaks 0;jar j size 2 leaks 1 head;jar k size 1 leaks 1;"
                + "fill j of s from 0 on 1;fill k of t from 0 on 0;", "", 0);
        Check.fine("none in ab yet", x, x.speaks(0), 0);
        Check.fine("z", x, x.speaks(1), 4);
        x.day(1);
        Check.fine("ab", x, x.speaks(0), 2);
        Check.fine("z is gone", x, x.speaks(1), 0);
        x.day(2);
        Check.fine("b in both", x, x.speaks(1), 2);
        x.day(3);
        Check.fine("all is gone", x, x.speaks(0), 0);
    }

    // Promise 33: "How many unlike LETTERS are HEARD .. all together"
    private static void kindsAltogether() {
        EchoJars x = holding("aabb", "bbcc", "-", "zzzz", "abcdefghijkl", "mnopqrstuvwx", "yz");
        int[] sets = {0, 4, 1, 2, 3, 8, 11, 16, 16 | 32 | 64, 127};
        int[] due = {0, 0, 2, 2, 3, 1, 4, 12, 26, 26};
        for (int k = 0; k < sets.length; k++) {
            Check.fine("kinds " + sets[k], x, x.kinds(sets[k]), due[k]);
        }
        Edge.same("no JARS at all", EchoJars::new, y -> y.kinds(0), 0, 0);
    }

    // Section 3: "LAPS of two JARS: the most LETTERS, fewer than either has"
    private static void lapsFewerThanEither() {
        EchoJars x = holding("ab", "abc", "bab", "a", "aa", "aaa");
        Check.fine("not all of the first", x, x.laps(0, 1), 0);
        Check.fine("not all of the second", x, x.laps(2, 0), 0);
        Check.fine("not all of either", x, x.laps(0, 0), 0);
        Check.fine("one LETTER has no fewer", x, x.laps(3, 1), 0);
        Check.fine("nor behind another", x, x.laps(4, 3), 0);
        Check.fine("one fewer than both", x, x.laps(4, 4), 1);
        Check.fine("fewer than the shorter first", x, x.laps(4, 5), 1);
        Check.fine("fewer than the shorter second", x, x.laps(5, 4), 1);
        Check.fine("two of three", x, x.laps(5, 5), 2);
        x = Edge.of("sound s aaaaaaaaaaaa;jar i size 12 leaks 0;jar j size 12 leaks 0;fill i of s from 0 on 0;"
                + "fill j of s from 0 on 0;", "", 0);
        Check.fine("eleven of twelve", x, x.laps(0, 1), 11);
    }

    private static void lapsTheMost() {
        EchoJars x = holding("xabab", "ababy", "bay", "yx");
        Check.fine("abab, not ab", x, x.laps(0, 1), 4);
        Check.fine("b alone", x, x.laps(0, 2), 1);
        Check.fine("y", x, x.laps(1, 3), 1);
        Check.fine("at the tail of the first, not of the second", x, x.laps(2, 0), 0);
        Check.fine("x", x, x.laps(3, 0), 1);
    }

    private static void lapsOfNothing() {
        Edge.asked("the second is EMPTY", 0, x -> x.laps(0, 3));
        Edge.asked("the first is EMPTY", 0, x -> x.laps(3, 0));
        Edge.asked("both are", 0, x -> x.laps(3, 3));
    }

    private static void merged(EchoJars x, int jars, String due) {
        Check.fine("merged " + jars, x, x.merged(jars), due.length());
        for (int k = 0; k < due.length(); k++) {
            Check.fine("LETTER " + k + " of " + due, x, x.mergedAt(k), Texts.letter(due.charAt(k)));
        }
        Check.refused("none behind " + due, x, x.mergedAt(due.length()), 8);
    }

    // Promise 35: "of a set of at most 6 JARS .. (2; 5: more)"
    private static void mergedAtMostSix() {
        Edge.Makes eight = () -> {
            EchoJars x = holding("a", "b", "c", "d", "e", "f", "-", "-");
            Check.fine("six", x, x.merged(63), 6);
            return x;
        };
        for (int set : new int[] {127, 255, 128 + 63, 254, 64 + 128 + 31}) {
            Edge.refused("seven or more: " + set, eight, 5, x -> x.merged(set));
        }
        Edge.refused("2 ahead of 5", eight, 2, x -> x.merged(511));
        Edge.refused("2 ahead of 5: -1", eight, 2, x -> x.merged(-1));
        merged(eight.made(), 63, "abcdef");
        merged(eight.made(), 15 + 64 + 128, "abcd");
    }

    private static void mergedOfEight() {
        Edge.Makes late = () -> {
            EchoJars x = Edge.eight();
            x.merged(252);
            return x;
        };
        EchoJars x = late.made();
        merged(x, 252, "c".repeat(12) + "d".repeat(12) + "e".repeat(12) + "f".repeat(12) + "g".repeat(12)
                + "h".repeat(12));
        Edge.refused("seven of eight", late, 5, y -> y.merged(127));
        x.day(12);
        merged(x, 128 | 64, "g".repeat(12) + "h");
    }

    private static void mergedOfNothing() {
        EchoJars x = holding("ab", "-", "-");
        merged(x, 0, "");
        merged(x, 1, "ab");
        merged(x, 2 | 4, "");
        merged(x, 7, "ab");
        merged(new EchoJars(), 0, "");
    }

    // Section 3: "the shortest row of LETTERS in which what is HEARD of each of these stands"
    private static void mergedShortest() {
        EchoJars x = holding("abcde", "cd", "bcd", "abcde", "e", "dea");
        merged(x, 31, "abcde");
        merged(x, 63, "abcdea");
        merged(x, 2 | 32, "cdea");
        x = holding("aab", "aba", "baa");
        merged(x, 7, "aabaa");
        x = holding("aaaaaaaaaaaa", "aaaaaaaaaaab", "baaaaaaaaaaa");
        merged(x, 7, "baaaaaaaaaaaab");
        merged(holding("b", "xyz", "abc"), 7, "abcxyz");
        merged(holding("b", "y", "z", "zz", "xyzzabc"), 31, "xyzzabc");
        merged(holding("b", "y", "c", "xyx", "abba"), 31, "abbacxyx");
        x = holding("bcd", "cde", "dbc");
        merged(x, 7, "dbcde");
    }

    // Section 3: "of several the first by the alphabet"
    private static void mergedFirstByAlphabet() {
        merged(holding("b", "a"), 3, "ab");
        merged(holding("zy", "yz"), 3, "yzy");
        merged(holding("cab", "bac", "abc"), 7, "bacabc");
        merged(holding("bx", "by", "bz"), 7, "bxbybz");
        // some orders that are as short begin alike
        merged(holding("dabb", "bbb", "dbb", "dc", "cd", "aac"), 63, "aacdabbbdbbdc");
        merged(holding("ca", "ac", "cb"), 7, "cacb");
        merged(holding("f", "e", "d", "c", "b", "a"), 63, "abcdef");
        merged(holding("bbbbbbbbbbbb", "bbbbbbbbbbba", "abbbbbbbbbbb"), 7, "abbbbbbbbbbbba");
    }

    // Promise 36: "(8: none such)"
    private static void mergedAtPlaces() {
        Edge.Makes makes = () -> {
            EchoJars x = holding("abc", "cd");
            x.merged(3);
            return x;
        };
        Edge.same("the first", makes, x -> x.mergedAt(0), 1, 0);
        Edge.same("the last", makes, x -> x.mergedAt(3), 4, 0);
        for (int k : new int[] {-1, 4, 72, Integer.MIN_VALUE, Integer.MAX_VALUE}) {
            Edge.refused("place " + k, makes, 8, x -> x.mergedAt(k));
        }
        Edge.refused("ahead of any", EchoJars::new, 8, x -> x.mergedAt(0));
    }

    // Promise 36: "of the latest merged() with STATUS 0"
    private static void mergedLatest() {
        EchoJars x = holding("abc", "cd");
        x.merged(3);
        Check.refused("2", x, x.merged(4), 2);
        Check.fine("it stays", x, x.mergedAt(3), 4);
        x.merged(2);
        Check.fine("another one", x, x.mergedAt(0), 3);
        Check.refused("nothing of that ahead", x, x.mergedAt(2), 8);
        x.merged(0);
        Check.refused("of no JARS", x, x.mergedAt(0), 8);
        x.merged(1);
        x.day(9);
        Texts.shop(x, "sound s z;");
        Check.fine("on another DAY, with another SHOP", x, x.mergedAt(2), 3);
    }

    // Promise 37: "5: so many LETTERS: 0 to 12", what 0, 1
    private static void sinceNumbers() {
        for (int v : new int[] {-1, 13, Integer.MIN_VALUE, Integer.MAX_VALUE}) {
            Edge.refused("so many LETTERS " + v, 5, x -> x.since(0, v, 0));
            Edge.refused("5 ahead of 8, EMPTY " + v, 5, x -> x.since(3, v, 0));
        }
        for (int v : new int[] {-1, 2, Integer.MIN_VALUE, Integer.MAX_VALUE}) {
            Edge.refused("what " + v, 5, x -> x.since(0, 0, v));
            Edge.refused("what " + v + " ahead of 8", 5, x -> x.since(3, 12, v));
        }
        String shop = "sound s abcdefghijkl;jar j size 12 leaks 1;fill j of s from 0 on 0;";
        Edge.same("twelve", () -> Edge.of(shop, "", 0), x -> x.since(0, 12, 0), 0, 0);
        Edge.same("none", () -> Edge.of(shop, "", 0), x -> x.since(0, 0, 0), 12, 0);
    }

    // Promise 37: "8: EMPTY, never so many, what 1: there is no last"
    private static void sinceThereIsNone() {
        for (int what = 0; what < 2; what++) {
            int asked = what;
            for (int letters = 0; letters < 13; letters++) {
                int many = letters;
                Edge.refused("EMPTY: " + letters, 8, x -> x.since(3, many, asked));
            }
            Edge.refused("six of five", 8, x -> x.since(0, 6, asked));
            Edge.refused("twelve of five", 8, x -> x.since(0, 12, asked));
        }
        Edge.refused("no last day of none", 8, x -> x.since(0, 0, 1));
        Edge.Makes never = () -> Edge.of("sound s abc;jar j size 3 leaks 0;fill j of s from 0 on 5;", "", 0);
        Edge.same("all of one that never leaks", never, x -> x.since(0, 3, 0), 5, 0);
        Edge.refused("no last day of it", never, 8, x -> x.since(0, 3, 1));
        Edge.refused("never fewer", never, 8, x -> x.since(0, 2, 0));
        Edge.refused("never none", never, 8, x -> x.since(0, 0, 0));
        Edge.refused("never more", never, 8, x -> x.since(0, 4, 0));
    }

    // Section 3: "the first (ON it or later), and the last"
    private static void sinceFirstAndLast() {
        for (int leaks : new int[] {1, 7, 99}) {
            EchoJars x = Edge.of("sound s abcd;jar j size 3 leaks " + leaks + ";fill j of s from 1 on 4;", "", 9);
            for (int letters = 0; letters <= 3; letters++) {
                int first = 4 + (3 - letters) * leaks;
                Check.fine("first of " + letters, x, x.since(0, letters, 0), first);
                x.day(first);
                Check.fine("that day", x, x.heard(0), letters);
                if (letters > 0) {
                    Check.fine("last of " + letters, x, x.since(0, letters, 1), first + leaks - 1);
                    x.day(first + leaks - 1);
                    Check.fine("the last day", x, x.heard(0), letters);
                    x.day(first + leaks);
                    Check.fine("behind it", x, x.heard(0), letters - 1);
                }
            }
        }
        EchoJars x = Edge.of("sound s a;jar j size 1 leaks 2;fill j of s from 0 on 3;", "", 0);
        Check.fine("none: not on the days ahead of it", x, x.since(0, 0, 0), 5);
    }

    // Section 3: "FAR of a JAR and a SOUND: the fewest LETTERS put in, left out, or put in place of another one"
    private static void farOfNothing() {
        Edge.asked("nothing HEARD: all put in", 9, x -> x.far(3, 0));
        EchoJars x = Edge.of("sound s abcdefghijklmnop;sound t z;jar j size 12 leaks 0;jar k size 1 leaks 0;"
                + "fill j of s from 0 on 0;", "", 0);
        Check.fine("sixteen put in", x, x.far(1, 0), 16);
        Check.fine("four put in", x, x.far(0, 0), 4);
        Check.fine("eleven left out, one in place", x, x.far(0, 1), 12);
        Check.fine("one put in", x, x.far(1, 1), 1);
    }

    private static void farKinds() {
        EchoJars x = holding("abc", "abxc", "ac", "axc", "cba", "bcd");
        int[][] due = {{0, 1, 1, 1, 2, 2}, {1, 0, 2, 1, 3, 3}, {1, 2, 0, 1, 3, 2}, {1, 1, 1, 0, 3, 3},
            {2, 3, 3, 3, 0, 3}, {2, 3, 2, 3, 3, 0}};
        for (int jar = 0; jar < 6; jar++) {
            for (int sound = 0; sound < 6; sound++) {
                Check.fine("far " + jar + " " + sound, x, x.far(jar, sound), due[jar][sound]);
            }
        }
    }

    // Section 3: "COMMON of two JARS: the longest row of LETTERS that stands in what is HEARD of both"
    private static void commonSideBySide() {
        Edge.asked("the second is EMPTY", 0, x -> x.common(0, 3));
        Edge.asked("the first is EMPTY", 0, x -> x.common(3, 0));
        Edge.asked("both are", 0, x -> x.common(3, 3));
        Edge.asked("itself", 4, x -> x.common(0, 0));
        EchoJars x = holding("abxcd", "abcd", "yab", "zcd", "q", "abcdefghijkl", "abcdefghijkl");
        Check.fine("side by side", x, x.common(0, 1), 2);
        Check.fine("at the tail of the second", x, x.common(0, 2), 2);
        Check.fine("at the tail of both", x, x.common(0, 3), 2);
        Check.fine("none", x, x.common(0, 4), 0);
        Check.fine("all of the second", x, x.common(1, 5), 4);
        Check.fine("all twelve", x, x.common(5, 6), 12);
    }

    private static void chain(EchoJars x, int n, int... jars) {
        Check.fine("chain " + n, x, x.chain(n), jars.length);
        for (int k = 0; k < jars.length; k++) {
            Check.fine("JAR " + k + " by " + n, x, x.chainAt(k), jars[k]);
        }
        Check.refused("none behind it", x, x.chainAt(jars.length), 8);
    }

    // Promise 40: "CHAIN by n (1 to 11) .. (5; 8: no JARS)"
    private static void chainNumbers() {
        for (int n : new int[] {-1, 0, 12, 13, Integer.MIN_VALUE, Integer.MAX_VALUE}) {
            Edge.refused("by " + n, 5, x -> x.chain(n));
            Edge.refused("5 ahead of 8: by " + n, EchoJars::new, 5, x -> x.chain(n));
        }
        EchoJars x = holding("abcdefghijkl", "bcdefghijkla");
        chain(x, 1, 0, 1);
        chain(x, 11, 0, 1);
        x = holding("abcdefghijkl", "cdefghijklab");
        chain(x, 10, 0, 1);
        chain(x, 11, 0);
    }

    private static void chainOfNoJars() {
        Edge.refused("no JARS", EchoJars::new, 8, x -> x.chain(1));
        Edge.refused("SOUNDS alone", () -> Edge.of("sound s ab;", "", 0), 8, x -> x.chain(11));
    }

    private static void chainOfOne() {
        chain(holding("ab", "cd"), 1, 0);
        chain(holding("-"), 1, 0);
        chain(holding("-", "ab"), 11, 0);
        EchoJars x = holding("aa", "aa", "aa", "aa", "aa", "aa", "aa", "aa");
        chain(x, 1, 0, 1, 2, 3, 4, 5, 6, 7);
        Texts.shop(x, "jar a size 1 leaks 0;jar b size 1 leaks 0;");
        chain(x, 1, 0);
        chain(Edge.eight(), 11, 0);
    }

    // Section 3: "one behind the other, none twice"
    private static void chainNoneTwice() {
        chain(holding("aa"), 1, 0);
        chain(holding("aa", "aa"), 1, 0, 1);
        chain(holding("ab", "ba"), 1, 0, 1);
        chain(holding("aa", "aa", "aa", "aa", "aa", "aa", "aa", "aa"), 1, 0, 1, 2, 3, 4, 5, 6, 7);
        chain(holding("ab", "bc", "cd", "da"), 1, 0, 1, 2, 3);
    }

    // Section 3: "the first of these by JARS' numbers"
    private static void chainFirst() {
        chain(holding("xy", "ab", "bc"), 1, 1, 2);
        chain(holding("cd", "bc", "ab"), 1, 2, 1, 0);
        chain(holding("ab", "cx", "bc", "by"), 1, 0, 2, 1);
        chain(holding("za", "yb", "bq", "ap"), 1, 0, 3);
        chain(holding("ab", "bz", "by"), 1, 0, 1);
        chain(holding("bz", "ab", "by", "xa"), 1, 3, 1, 0);
    }

    // Promise 41: "(8: none such)"
    private static void chainAtPlaces() {
        Edge.Makes makes = () -> {
            EchoJars x = holding("bc", "ab");
            x.chain(1);
            return x;
        };
        Edge.same("the first", makes, x -> x.chainAt(0), 1, 0);
        Edge.same("the last", makes, x -> x.chainAt(1), 0, 0);
        for (int k : new int[] {-1, 2, 8, Integer.MIN_VALUE, Integer.MAX_VALUE}) {
            Edge.refused("place " + k, makes, 8, x -> x.chainAt(k));
        }
        Edge.refused("ahead of any", EchoJars::new, 8, x -> x.chainAt(0));
    }

    // Promise 41: "of the latest chain() with STATUS 0"
    private static void chainLatest() {
        EchoJars x = holding("bc", "ab");
        x.chain(1);
        Check.refused("5", x, x.chain(12), 5);
        Check.fine("it stays", x, x.chainAt(0), 1);
        Texts.shop(x, "");
        Check.refused("8", x, x.chain(1), 8);
        Check.fine("it stays, with another SHOP", x, x.chainAt(1), 0);
        x = holding("bc", "ab");
        x.chain(1);
        x.chain(2);
        Check.fine("another one", x, x.chainAt(0), 0);
        Check.refused("nothing of that ahead", x, x.chainAt(1), 8);
    }

    // Promise 42: "a set (2; 8: none)"
    private static void witnessNone() {
        Edge.refused("nothing HEARD", () -> Edge.of("sound s a;sound t b;jar j size 1 leaks 0;", "", 0), 8,
                x -> x.witness(0));
        Edge.refused("no JARS, two SOUNDS", () -> Edge.of("sound s a;sound t b;", "", 0), 8, x -> x.witness(1));
        Edge.refused("it does not fit", () -> Edge.of("sound s a;sound t b;jar j size 1 leaks 0;"
                + "fill j of s from 0 on 0;", "", 0), 8, x -> x.witness(1));
        Edge.refused("another one fits, too", () -> Edge.of("sound s ab;sound t xaby;jar j size 2 leaks 0;"
                + "fill j of s from 0 on 0;", "", 0), 8, x -> x.witness(0));
        Edge.refused("two alike", () -> Edge.of("sound s ab;sound t ab;jar j size 2 leaks 0;fill j of s from 0 on 0;",
                "", 0), 8, x -> x.witness(0));
        Edge.same("of one SOUND none is needed", () -> Edge.of("sound s ab;jar j size 2 leaks 0;"
                + "fill j of s from 0 on 0;", "", 0), x -> x.witness(0), 0, 0);
    }

    // Section 3: "the fewest JARS .. that no other SOUND fits, and this one does"
    private static void witnessFewest() {
        // abc: ab is in abx, bc in xbc, so two are needed, or the last JAR alone
        String two = "sound s abc;sound t abx;sound u xbc;jar i size 2 leaks 0;jar j size 2 leaks 0;"
                + "fill i of s from 0 on 0;fill j of s from 1 on 0;";
        Edge.same("two", () -> Edge.of(two, "", 0), x -> x.witness(0), 3, 0);
        String one = two + "jar k size 3 leaks 0;fill k of s from 0 on 0;";
        Edge.same("one of a greater number", () -> Edge.of(one, "", 0), x -> x.witness(0), 4, 0);
        String eight = "sound s abcdefgh;sound t xbcdefgh;sound u axcdefgh;sound v abxdefgh;sound w abcxefgh;"
                + "sound p abcdxfgh;sound q abcdexgh;sound r abcdefgx;"
                + "jar ja size 1 leaks 0;jar jb size 1 leaks 0;jar jc size 1 leaks 0;jar jd size 1 leaks 0;"
                + "jar je size 1 leaks 0;jar jf size 1 leaks 0;jar jg size 1 leaks 0;jar jh size 1 leaks 0;"
                + "fill ja of s from 0 on 0;fill jb of s from 1 on 0;fill jc of s from 2 on 0;fill jd of s from 3 on 0;"
                + "fill je of s from 4 on 0;fill jf of s from 5 on 0;fill jg of s from 6 on 0;fill jh of s from 7 on 0;";
        Edge.same("seven of eight, not g", () -> Edge.of(eight, "", 0), x -> x.witness(0), 191, 0);
    }

    // Section 3: "(of these sets the least as a number)"
    private static void witnessLeast() {
        String shop = "sound s abc;sound t abx;sound u xbc;jar z size 1 leaks 0;jar i size 2 leaks 0;jar j size 2 leaks 0;"
                + "jar k size 2 leaks 0;jar l size 2 leaks 0;fill i of s from 0 on 0;fill j of s from 0 on 0;"
                + "fill k of s from 1 on 0;fill l of s from 1 on 0;";
        Edge.same("1 and 3", () -> Edge.of(shop, "", 0), x -> x.witness(0), 2 | 8, 0);
        String alike = "sound s a;sound t b;jar i size 1 leaks 0;jar j size 1 leaks 0;jar k size 1 leaks 0;"
                + "fill k of s from 0 on 0;fill j of s from 0 on 0;";
        Edge.same("1, not 2", () -> Edge.of(alike, "", 0), x -> x.witness(0), 2, 0);
    }

    // Promise 43: "5: 0 to 999 days"
    private static void fillFromDays() {
        for (int days : new int[] {-1, 1000, Integer.MIN_VALUE, Integer.MAX_VALUE}) {
            Edge.refused("days " + days, 5, x -> x.fillFrom(0, 0, days));
            Edge.refused("5 ahead of 8: days " + days, 5, x -> x.fillFrom(2, 2, days));
        }
        Edge.asked("0 days", 0, x -> x.fillFrom(0, 0, 0));
        Edge.asked("999 days of one that never leaks", 0, x -> x.fillFrom(3, 0, 999));
    }

    // Promise 43: "8: nothing would be HEARD"
    private static void fillFromNothing() {
        Edge.refused("999 days", 8, x -> x.fillFrom(0, 0, 999));
        Edge.refused("ten days of five by two", 8, x -> x.fillFrom(0, 0, 10));
        // one LETTER of a, b, e, l, l: a stands at two places of ringabell and gable, an l at three
        Edge.asked("a day fewer", 0, x -> x.fillFrom(0, 0, 9));
        Edge.refused("three days of three by one", 8, x -> x.fillFrom(2, 2, 3));
        Edge.asked("a day fewer", 0, x -> x.fillFrom(2, 2, 2));
    }

    // Section 3: "stands at the fewest places in all SOUNDS together, but at least one LETTER is HEARD"
    private static void fillFromPlaces() {
        // heads gone by one: b of ab 3, a of ba 2, c of ac 1, nothing of c alone
        EchoJars x = Edge.of("sound s abac;sound t bb;jar j size 2 leaks 1 head;", "", 0);
        Check.fine("c", x, x.fillFrom(0, 0, 1), 2);
        // ab 1, ba 1, ac 1, c 1
        Check.fine("all are once", x, x.fillFrom(0, 0, 0), 0);
        // tails gone by one: a 2, b 3, a 2
        x = Edge.of("sound s abac;sound t bb;jar j size 2 leaks 1 tail;", "", 0);
        Check.fine("a", x, x.fillFrom(0, 0, 1), 0);
        x = Edge.of("sound s bac;sound t bb;jar j size 2 leaks 1 tail;", "", 0);
        Check.fine("a, that is not first", x, x.fillFrom(0, 0, 1), 1);
        Check.fine("of the other one", x, x.fillFrom(0, 1, 1), 0);
    }

    // Section 3: "of several the first"
    private static void fillFromFirst() {
        EchoJars x = Edge.of("sound s xxyyz;sound t zx;jar j size 1 leaks 0;jar k size 12 leaks 0;", "", 0);
        // x 3, y 2, y 2, z 2
        Check.fine("y, not z", x, x.fillFrom(0, 0, 0), 2);
        Check.fine("all at once", x, x.fillFrom(1, 0, 0), 0);
    }

    // Terms: "as many as it holds or there are"
    private static void fillFromSize() {
        // heads gone by two: of abcd c, d; of bcd d; of cd nothing
        EchoJars x = Edge.of("sound s abcd;sound t cc;jar j size 3 leaks 1 head;jar k size 1 leaks 1;", "", 0);
        Check.fine("d of bcd", x, x.fillFrom(0, 0, 2), 1);
        Check.refused("three gone of three", x, x.fillFrom(0, 0, 3), 8);
        Check.refused("one gone of one", x, x.fillFrom(1, 0, 1), 8);
        Check.refused("two gone of two", x, x.fillFrom(0, 1, 2), 8);
        Check.fine("whatever is in it", x, x.fillFrom(0, 1, 1), 0);
    }
}
