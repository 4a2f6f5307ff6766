/** Promises 9 to 16: the tape, SHOP, LAW, FAULTS and what is told of them. */
public final class TextsTest {
    private TextsTest() {
    }

    public static void main(String[] args) {
        feed();
        takenShops();
        shopNumbers();
        shopFaults();
        names();
        numbers();
        manyParts();
        laws();
        lawFaults();
        faults();
        manyAndLetter();
        jars();
        days();
        Check.finish();
    }

    private static void feed() {
        EchoJars x = new EchoJars();
        for (int k = 1; k <= 45; k++) {
            Check.same("feed " + k, x.feed(0x20202020, 0x20202020, 0x20202020, 0x20202020, 0x20202020), 20 * k);
        }
        Check.same("above 900", x.feed(0, 0, 0, 0, 0), -1);
        Check.fine("all 900 are blanks", x, x.shop(900), 0);
        Check.same("empty then", x.feed(0, 0, 0, 0, 0), 20);
        // "jar?" with the highest byte first
        x = new EchoJars();
        x.feed(0x6a61723f, 0, 0, 0, 0);
        Check.refused("its ?", x, x.shop(4), 10);
        Check.same("its kind", x.fault(0), 1);
        Check.same("its place", x.fault(1), 3);
    }

    private static void takenShops() {
        EchoJars x = new EchoJars();
        Texts.feed(x, "jar a size 1 leaks 0;????");
        Check.refused("n -1", x, x.shop(-1), 5);
        Check.refused("n above the tape", x, x.shop(41), 5);
        Check.refused("far above", x, x.shop(Integer.MAX_VALUE), 5);
        Check.same("no FAULT of these", x.fault(0), -1);
        Check.fine("the first 21 bytes", x, x.shop(21), 1);
        Check.refused("the rest is gone", x, x.shop(1), 5);
        Check.fine("none", x, x.shop(0), 0);
        Check.fine("no jars", x, x.many(1), 0);

        x = Texts.opened(Texts.BELLS);
        Texts.law(x, "mix a with b gives c;");
        x.day(7);
        x.road(1, 2);
        x.shelf();
        Check.fine("broken", x, x.brokeOn(2), 1);
        Check.refused("a FAULT", x, Texts.shop(x, "jar"), 10);
        Check.fine("the old one stays", x, x.many(1), 4);
        Check.fine("its day", x, x.many(3), 7);
        Check.fine("its law", x, x.many(2), 1);
        Check.fine("its road", x, x.brokeOn(2), 1);
        Check.fine("taken", x, Texts.shop(x, Texts.BELLS), 4);
        Check.fine("DAY 0", x, x.many(3), 0);
        Check.fine("no LAW", x, x.many(2), 0);
        Check.fine("none of the rules", x, x.mixes(1, 2), 0);
        Check.refused("nobody on the road", x, x.brokeOn(2), 8);
        Check.fine("blanks are not needed", x, Texts.shop(x, "sound\ns\nabc;jar j size12leaks99head"
                + " tail costs99worth0breaks15;fill j of s from2on999;"), 1);
        Check.fine("nor all on one row", x, Texts.shop(x, "\n\n  sound s abc\n; jar j size 0001 leaks 0 ;  "), 1);
    }

    /** What a SHOP's text has for a FAULT: its kind and place. */
    private static void shopFault(String text, int kind, int place) {
        EchoJars x = new EchoJars();
        Check.refused("shop " + text, x, Texts.shop(x, text), 10);
        Check.same("its kind: " + text, x.fault(0), kind);
        Check.same("its place: " + text, x.fault(1), place);
        Check.same("no other what", x.fault(2), -1);
    }

    private static void shopTaken(String text, int jars) {
        EchoJars x = new EchoJars();
        Check.fine("shop " + text, x, Texts.shop(x, text), jars);
        Check.same("no FAULT: " + text, x.fault(0), 0);
        Check.same("no place: " + text, x.fault(1), -1);
    }

    private static void shopNumbers() {
        shopTaken("sound s a;", 0);
        shopTaken("sound s abcdefghijklmnop;", 0);
        shopTaken("sound abcdefgh jar;", 0);
        shopTaken("jar a size 12 leaks 99 costs 99 worth 99 breaks 15;", 1);
        shopTaken("jar a size 1 leaks 0 costs 0 worth 0 breaks 0;", 1);
        shopFault("jar a size 0 leaks 1;", 4, 11);
        shopFault("jar a size 13 leaks 1;", 4, 11);
        shopFault("jar a size 1 leaks 100;", 4, 19);
        shopFault("jar a size 1 leaks 0 costs 100;", 4, 27);
        shopFault("jar a size 1 leaks 0 worth 100;", 4, 27);
        shopFault("jar a size 1 leaks 0 breaks 16;", 4, 28);
        shopFault("jar a size 12345 leaks 0;", 1, 11);
        shopFault("jar a size 00001 leaks 0;", 1, 11);
        String ahead = "sound s abc;jar j size 2 leaks 0;";
        shopTaken(ahead + "fill j of s from 2 on 999;", 1);
        shopFault(ahead + "fill j of s from 3 on 0;", 4, 50);
        shopFault(ahead + "fill j of s from 0 on 1000;", 4, 55);
    }

    private static void shopFaults() {
        shopFault("?", 1, 0);
        shopFault("  Sound", 1, 2);
        shopFault("sound\ts a;", 1, 5);
        shopFault("sound s a\r;", 1, 9);
        shopFault("sound s \u00e4;", 1, 8);
        shopFault("sound s a;\0", 1, 10);
        shopFault("sound s 12345;", 1, 8);
        shopFault("bell s a;", 2, 0);
        shopFault("sounds s a;", 2, 0);
        shopFault("7", 2, 0);
        shopFault(";", 2, 0);
        shopFault("sound s a;;", 2, 10);
        shopFault("sound", 2, 5);
        shopFault("sound  ", 2, 7);
        shopFault("sound s", 2, 7);
        shopFault("sound s a", 2, 9);
        shopFault("sound s 1;", 2, 8);
        shopFault("sound s abcdefghijklmnopq;", 2, 8);
        shopFault("sound 1 a;", 2, 6);
        shopFault("jar a leaks 1;", 2, 6);
        shopFault("jar a size b leaks 1;", 2, 11);
        shopFault("jar a size 1 leaks ;", 2, 19);
        shopFault("jar a size 1;", 2, 12);
        shopFault("jar a size 1 leaks 0 tail head;", 2, 26);
        shopFault("jar a size 1 leaks 0 worth 1 costs 1;", 2, 29);
        shopFault("jar a size 1 leaks 0 head head;", 2, 26);
        shopFault("jar a size 1 leaks 0 costs;", 2, 26);
        String ahead = "sound s abc;jar j size 2 leaks 0;";
        shopFault(ahead + "fill j from 0 on 0;", 2, 40);
        shopFault(ahead + "fill j of s on 0;", 2, 45);
        shopFault(ahead + "fill j of s from 0 of 0;", 2, 52);
        shopFault(ahead + "fill j of s from 0 on 0", 2, 56);
        shopFault(ahead + "fill j of s from 0 on 0;fill j of s", 5, 62);
        shopFault(ahead + "fill k", 3, 38);
        shopFault(ahead + "fill s", 3, 38);
        shopFault(ahead + "fill j of j", 3, 43);
        shopFault(ahead + "fill j of t", 3, 43);
        shopFault("fill j of s from 0 on 0;sound s a;jar j size 1 leaks 0;", 3, 5);
        // the first along the text, whatever comes behind
        shopFault("jar a size 0 leaks 100 ?", 4, 11);
    }

    private static void names() {
        String[] kept = {"sound", "jar", "size", "leaks", "head", "tail", "costs", "worth", "breaks", "fill", "of",
            "from", "on", "mix", "with", "gives", "any", "same", "rest", "first", "second"};
        for (String name : kept) {
            shopFault("sound " + name + " a;", 2, 6);
            shopFault("jar " + name + " size 1 leaks 0;", 2, 4);
            shopFault("fill " + name + " of s from 0 on 0;", 2, 5);
            shopTaken("sound x " + name + ";", 0);
            shopTaken("sound " + name + "x a;", 0);
        }
        shopTaken("sound abcdefgh a;", 0);
        shopFault("sound abcdefghi a;", 2, 6);
        shopFault("sound a b;sound a b;", 3, 16);
        shopFault("sound a b;jar a size 1 leaks 0;", 3, 14);
        shopFault("jar a size 1 leaks 0;sound a b;", 3, 27);
        shopFault("jar a size 1 leaks 0;jar a size 1 leaks 0;", 3, 25);
        shopTaken("sound a a;jar ab size 1 leaks 0;jar b size 1 leaks 0;", 2);
        shopFault("jar a size 1 leaks 0;fill abcdefghi", 2, 26);
    }

    private static void numbers() {
        shopTaken("jar a size 0012 leaks 0000;", 1);
        shopFault("jar a size 1 leaks 0 costs 9999;", 4, 27);
        shopFault("jar a size 1 leaks 0 costs 99999;", 1, 27);
        shopFault("jar a size -1 leaks 0;", 1, 11);
    }

    private static void manyParts() {
        StringBuilder sounds = new StringBuilder();
        StringBuilder jars = new StringBuilder();
        for (int k = 0; k < 8; k++) {
            sounds.append("sound s").append((char) ('a' + k)).append(" a;");
            jars.append("jar j").append((char) ('a' + k)).append(" size 1 leaks 0;");
        }
        shopTaken(sounds.toString() + jars, 8);
        shopFault(sounds + "sound sa", 6, sounds.length());
        shopFault(jars + "jar 7", 6, jars.length());
        shopFault(sounds + "jar sa", 3, sounds.length() + 4);
    }

    private static void laws() {
        EchoJars x = new EchoJars();
        Texts.feed(x, "mix a with b gives c;" + " ".repeat(300));
        Check.refused("n -1", x, x.law(-1), 5);
        Check.refused("n 301", x, x.law(301), 5);
        Check.refused("n above", x, x.law(400), 5);
        Check.same("no FAULT", x.fault(0), -1);
        Check.fine("300 bytes", x, x.law(300), 1);
        Check.fine("mixes", x, x.mixes(1, 2), 3);
        Check.refused("empty then", x, x.law(1), 5);
        Check.refused("a FAULT", x, Texts.law(x, "mix"), 10);
        Check.fine("the old one stays", x, x.mixes(1, 2), 3);
        Check.refused("the tape is empty, too", x, x.law(1), 5);
        Check.fine("another one", x, Texts.law(x, "mix b with a gives rest;mix any with any gives second;"), 2);
        Check.fine("in place of the first", x, x.mixes(1, 2), 2);
        Check.fine("none", x, x.law(0), 0);
        Check.fine("as without", x, x.mixes(1, 2), 0);
        StringBuilder twelve = new StringBuilder();
        for (int k = 0; k < 12; k++) {
            twelve.append("mix a with a gives b;");
        }
        Check.fine("twelve", x, Texts.law(x, twelve.toString()), 12);
        Check.refused("thirteen", x, Texts.law(x, twelve + " mix 7"), 10);
        Check.same("its kind", x.fault(0), 6);
        Check.same("its place", x.fault(1), twelve.length() + 1);
        Check.refused("something else", x, Texts.law(x, twelve + "mixes"), 10);
        Check.same("its kind", x.fault(0), 2);
    }

    private static void lawFault(String text, int kind, int place) {
        EchoJars x = new EchoJars();
        Check.refused("law " + text, x, Texts.law(x, text), 10);
        Check.same("its kind: " + text, x.fault(0), kind);
        Check.same("its place: " + text, x.fault(1), place);
    }

    private static void lawFaults() {
        lawFault("mux", 2, 0);
        lawFault("mix ab with c gives d;", 2, 4);
        lawFault("mix 1 with c gives d;", 2, 4);
        lawFault("mix same with c gives d;", 2, 4);
        lawFault("mix first with c gives d;", 2, 4);
        lawFault("mix a any", 2, 6);
        lawFault("mix a with second gives d;", 2, 11);
        lawFault("mix a with b", 2, 12);
        lawFault("mix a with b gives any;", 2, 19);
        lawFault("mix a with b gives dd;", 2, 19);
        lawFault("mix a with b gives c", 2, 20);
        lawFault("mix a with b gives c c;", 2, 21);
        lawFault("mix a with b gives 12345;", 1, 19);
        lawFault("mix A with b gives c;", 1, 4);
        lawFault("sound s a;", 2, 0);
    }

    private static void faults() {
        EchoJars x = new EchoJars();
        Texts.shop(x, "?");
        Check.same("kind", x.fault(0), 1);
        Check.same("place", x.fault(1), 0);
        Check.same("what -1", x.fault(-1), -1);
        x.shop(5);
        Check.same("5 doesn't change it", x.fault(0), 1);
        Texts.law(x, "");
        Check.same("a LAW that is taken does", x.fault(0), 0);
        Check.same("no place", x.fault(1), -1);
        Texts.law(x, "mix");
        Check.same("its kind", x.fault(0), 2);
        Check.same("its place", x.fault(1), 3);
        Texts.shop(x, "sound s a;");
        Check.same("a SHOP that is taken", x.fault(0), 0);
    }

    private static void manyAndLetter() {
        EchoJars x = Texts.opened(Texts.BELLS);
        int[] due = {2, 4, 0, 0, 1};
        for (int what = 0; what < 5; what++) {
            Check.fine("many " + what, x, x.many(what), due[what]);
        }
        Check.refused("many 5", x, x.many(5), 5);
        Check.refused("many -1", x, x.many(-1), 5);
        String ring = "ringabell";
        for (int k = 0; k < 9; k++) {
            Check.fine("letter " + k, x, x.letter(0, k), Texts.letter(ring.charAt(k)));
        }
        Check.refused("letter 9", x, x.letter(0, 9), 8);
        Check.refused("letter -1", x, x.letter(0, -1), 8);
        Check.refused("letter far", x, x.letter(0, Integer.MAX_VALUE), 8);
        Check.refused("sound 2", x, x.letter(2, 0), 2);
        Check.refused("sound -1", x, x.letter(-1, 0), 2);
    }

    private static void jars() {
        EchoJars x = Texts.opened("sound s abcde;sound t fgh;jar a size 9 leaks 7 costs 1 worth 2 breaks 3;"
                + "jar b size 2 leaks 0 head tail;jar c size 1 leaks 1 head;jar d size 2 leaks 1 tail worth 0;"
                + "fill a of t from 1 on 8;fill b of s from 3 on 0;");
        int[][] due = {{9, 7, 2, 1, 2, 3, 2, 8, 1}, {2, 0, 2, 0, 1, 0, 2, 0, 0}, {1, 1, 0, 0, 1, 0, 0},
            {2, 1, 1, 0, 0, 0, 0}};
        for (int jar = 0; jar < 4; jar++) {
            for (int what = 0; what < due[jar].length; what++) {
                Check.fine("jar " + jar + " " + what, x, x.jar(jar, what), due[jar][what]);
            }
        }
        Check.refused("ON of an EMPTY one", x, x.jar(2, 7), 8);
        Check.refused("SOUND of an EMPTY one", x, x.jar(2, 8), 8);
        Check.refused("what 9", x, x.jar(2, 9), 5);
        Check.refused("what -1", x, x.jar(0, -1), 5);
        Check.refused("jar 4", x, x.jar(4, 9), 2);
        Check.refused("jar -1", x, x.jar(-1, 0), 2);
    }

    private static void days() {
        EchoJars x = new EchoJars();
        Check.done("9999", x, x.day(9999));
        Check.denied("10000", x, x.day(10000), 5);
        Check.denied("-1", x, x.day(-1), 5);
        Check.fine("as it was", x, x.many(3), 9999);
        Check.done("0", x, x.day(0));
        Check.fine("back", x, x.many(3), 0);
    }
}
