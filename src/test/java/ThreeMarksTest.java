/** Promises 54 to 58: THIRD, SECOND, ANY TWO, and MARKS. */
public final class ThreeMarksTest {
    private ThreeMarksTest() {
    }

    public static void main(String[] args) {
        thirdAndSecond();
        wrongThrees();
        anyTwo();
        marks();
        whatMarksKeep();
        Check.finish();
    }

    private static void thirdAndSecond() {
        EchoJars x = new EchoJars();
        Texts.lay(x, 0, "abzymz");
        Texts.lay(x, 1, "abbxnz");
        x.tray(2, 0, 7);
        x.write(2, 6, 99);
        x.write(2, 5, 99);
        Check.done("third", x, x.third(0, 1, 2, 5));
        Texts.row("third", Texts.told(x, 2, 5), "acavz");
        Check.fine("behind it", x, x.read(2, 5), 99);
        Check.done("second", x, x.second(0, 2, 2, 5));
        Check.fine("behind it", x, x.read(2, 5), 99);
        Texts.row("second in place of the third", Texts.told(x, 2, 5), "abbxn");
        Check.done("in place of the first", x, x.third(0, 1, 0, 6));
        Texts.row("in place of the first", Texts.told(x, 0, 6), "acavzy");
        Check.done("with itself", x, x.third(1, 1, 1, 6));
        Texts.row("with itself", Texts.told(x, 1, 6), "accuay");
        Check.done("from itself", x, x.second(1, 1, 1, 6));
        Texts.row("from itself", Texts.told(x, 1, 6), "aaaaaa");
        Texts.lay(x, 0, "z");
        Texts.lay(x, 1, "a");
        Check.done("second of z and a", x, x.second(0, 1, 2, 1));
        Texts.row("second of z and a", Texts.told(x, 2, 1), "b");
    }

    private static void wrongThrees() {
        EchoJars x = new EchoJars();
        String letters = "abcdefghijklmnopq";
        Texts.lay(x, 0, letters);
        Texts.lay(x, 1, letters);
        Texts.lay(x, 2, letters);
        Check.done("sixteen", x, x.third(0, 1, 2, 16));
        Check.fine("not the 17th", x, x.read(2, 16), 17);
        Check.denied("seventeen", x, x.third(0, 1, 2, 17), 5);
        Check.denied("eighteen", x, x.second(0, 1, 2, 18), 4);
        Check.denied("none", x, x.third(0, 1, 2, 0), 5);
        Check.denied("-1", x, x.second(0, 1, 2, -1), 5);
        Check.denied("MISSING", x, x.third(0, 1, 3, 18), 3);
        Check.denied("MISSING first", x, x.third(3, 1, 0, 18), 3);
        Check.denied("MISSING second", x, x.second(0, 3, 1, 18), 3);
        Check.denied("tray 4", x, x.third(0, 3, 4, 18), 1);
        Check.denied("tray -1", x, x.second(-1, 3, 0, 18), 1);
        Check.denied("second tray 4", x, x.second(0, 4, 3, 18), 1);
        Texts.lay(x, 3, "ab");
        Check.denied("too short a first", x, x.third(3, 1, 2, 3), 4);
        Check.denied("too short a second", x, x.third(0, 3, 2, 3), 4);
        Check.denied("too short a third", x, x.third(0, 1, 3, 3), 4);
        x.write(0, 1, 0);
        Check.denied("a REST in the first", x, x.third(0, 1, 2, 2), 5);
        Check.done("behind those", x, x.third(0, 1, 2, 1));
        x.write(0, 1, 27);
        Check.denied("a 27 in the first", x, x.second(0, 1, 2, 2), 5);
        Check.denied("a 27 in the second", x, x.second(1, 0, 2, 2), 5);
        x.write(0, 1, -1);
        Check.denied("a -1 in the second", x, x.third(1, 0, 2, 2), 5);
        Check.done("where it comes to is free", x, x.third(1, 1, 0, 2));
        Check.fine("b and b", x, x.read(0, 1), 3);
        x.tray(3, 3, 2);
        x.write(3, 0, 1 + (1L << 40));
        Check.denied("a far number", x, x.third(3, 1, 2, 1), 5);
    }

    private static void anyTwo() {
        EchoJars x = Texts.opened("sound s abz;sound t bbb;sound u bca;jar a size 3 leaks 0;jar b size 3 leaks 5;"
                + "jar c size 3 leaks 5 head;jar d size 2 leaks 0;jar e size 2 leaks 0;fill a of s from 0 on 0;"
                + "fill b of t from 0 on 0;fill c of u from 0 on 0;fill d of s from 0 on 0;");
        Check.fine("the third", x, x.anyTwo(0, 1, 2), 1);
        Check.fine("either first", x, x.anyTwo(1, 0, 2), 1);
        Check.fine("not as the first", x, x.anyTwo(2, 1, 0), 0);
        Check.fine("unlike lengths", x, x.anyTwo(3, 1, 2), 0);
        Check.fine("nothing heard", x, x.anyTwo(4, 4, 4), 0);
        x.day(5);
        // bb and ca: abz is too long, but ab and bb give bc, not ca
        Check.fine("by the DAY", x, x.anyTwo(0, 1, 2), 0);
        Check.fine("by the DAY", x, x.anyTwo(3, 1, 2), 0);
        x.day(10);
        Check.fine("b and a", x, x.anyTwo(1, 2, 1), 1);
        Check.fine("a first letter that is not", x, x.anyTwo(1, 1, 2), 0);
        Check.refused("jar 5", x, x.anyTwo(0, 1, 5), 2);
        Check.refused("jar -1", x, x.anyTwo(0, -1, 2), 2);
        Check.refused("first jar 5", x, x.anyTwo(5, 1, 2), 2);
    }

    private static void marks() {
        EchoJars x = new EchoJars();
        Check.refused("none yet", x, x.back(), 8);
        for (int k = 1; k <= 3; k++) {
            x.day(k * 10);
            Check.fine("mark " + k, x, x.mark(), k);
        }
        Check.refused("a fourth", x, x.mark(), 7);
        x.day(77);
        for (int k = 2; k >= 0; k--) {
            Check.fine("back " + k, x, x.back(), k);
            Check.fine("its day", x, x.many(3), k * 10 + 10);
        }
        Check.refused("no more", x, x.back(), 8);
        Check.fine("the day stays", x, x.many(3), 10);
        Check.fine("anew", x, x.mark(), 1);
    }

    private static void whatMarksKeep() {
        EchoJars x = Texts.opened(Texts.BELLS);
        Texts.law(x, "mix a with b gives c;");
        x.day(4);
        x.mark();
        Texts.shop(x, "sound z zz;jar y size 1 leaks 0;");
        Texts.law(x, "mix a with b gives d;mix a with a gives d;");
        x.day(9);
        x.mark();
        x.day(12);
        Texts.law(x, "");
        x.tray(1, 1, 2);
        x.write(1, 1, 7);
        Check.fine("to the later", x, x.back(), 1);
        Check.fine("its day", x, x.many(3), 9);
        Check.fine("its law", x, x.mixes(1, 2), 4);
        Check.fine("its shop", x, x.many(1), 1);
        Check.fine("to the first", x, x.back(), 0);
        Check.fine("its day", x, x.many(3), 4);
        Check.fine("its law", x, x.mixes(1, 2), 3);
        Check.fine("its rules", x, x.many(2), 1);
        Check.fine("its shop", x, x.many(1), 4);
        Texts.row("as it was heard", Texts.heard(x, 0), "inga");
        Check.fine("no TRAY is taken back", x, x.read(1, 1), 7);
        x.mark();
        Texts.shop(x, "?");
        Check.same("nor a FAULT", x.fault(0), 1);
        x.back();
        Check.same("as it was told", x.fault(0), 1);
        Check.same("twenty", x.feed(0, 0, 0, 0, 0), 20);
        x.mark();
        x.feed(0, 0, 0, 0, 0);
        x.back();
        Check.same("nor the tape", x.feed(0, 0, 0, 0, 0), 60);
        x.mark();
        Texts.shop(new EchoJars(), Texts.BELLS);
        x.road(1, 1);
        x.back();
        Check.fine("nor the latest road()", x, x.brokeOn(2), 1);
    }
}
