/** The edges that 'Terms', section 5 and promises 1 to 8 name of TRAYS, STATUS and FRACTIONS: a sentence a method. */
public final class TrayEdgesTest {
    private static final int[] NO_TRAYS = {-1, 4, Integer.MIN_VALUE, Integer.MAX_VALUE};

    private TrayEdgesTest() {
    }

    public static void main(String[] args) {
        newObjectHasNothing();
        traysAreFour();
        noOtherTrayForRows();
        noOtherTrayForThree();
        traysAreMissingAtFirst();
        missingForRows();
        sortsAreFour();
        writtenIsCut();
        sixtyAtMost();
        noneBelowZero();
        trayOrder();
        laidIsAllZero();
        placesOfWriteAndRead();
        statusTellsNoneFromMinusOne();
        pourOrder();
        pourPlaces();
        pourAsTheyWere();
        pourIntoTheSame();
        someCallsHaveNoStatus();
        fractionStays();
        fractionsHaveNoCommonDivisor();
        askingChangesNothing();
        Check.finish();
    }

    // Promise 1: "TRAYS are MISSING, no SOUNDS, JARS, DAY 0, no LAW, ROAD, MARKS, an empty tape; STATUS 0, 0 by 1"
    private static void newObjectHasNothing() {
        EchoJars x = new EchoJars();
        Check.same("STATUS", x.status(), 0);
        Check.fraction("new", x, 0, 1);
        for (int tray = 0; tray < 4; tray++) {
            int asked = tray;
            Edge.refused("read " + tray, EchoJars::new, 3, y -> y.read(asked, 0));
        }
        for (int what = 0; what < 5; what++) {
            int asked = what;
            Edge.same("many " + what, EchoJars::new, y -> y.many(asked), 0, 0);
        }
        Edge.refused("no SOUND", EchoJars::new, 2, y -> y.letter(0, 0));
        Edge.refused("no JAR", EchoJars::new, 2, y -> y.jar(0, 0));
        Edge.refused("no JAR that broke", EchoJars::new, 2, y -> y.brokeOn(0));
        Edge.same("no LAW", EchoJars::new, y -> y.mixes(1, 2), 0, 0);
        Edge.refused("no MARKS", EchoJars::new, 8, y -> y.back());
        Edge.refused("no merged()", EchoJars::new, 8, y -> y.mergedAt(0));
        Edge.refused("no chain()", EchoJars::new, 8, y -> y.chainAt(0));
        Edge.refused("no shelf()", EchoJars::new, 8, y -> y.shelfAt(0));
        Edge.refused("an empty tape", EchoJars::new, 5, y -> y.shop(1));
        Edge.refused("an empty tape for a LAW", EchoJars::new, 5, y -> y.law(1));
        Check.same("no FAULT", x.fault(0), -1);
        Check.same("no place of one", x.fault(1), -1);
    }

    // Terms: "TRAYS, 0 to 3"; "1 no such TRAY"
    private static void traysAreFour() {
        for (int tray = 0; tray < 4; tray++) {
            EchoJars x = new EchoJars();
            Check.done("tray " + tray, x, x.tray(tray, 3, 1));
            Check.done("write " + tray, x, x.write(tray, 0, 5 + tray));
            Check.fine("read " + tray, x, x.read(tray, 0), 5 + tray);
        }
        for (int t : NO_TRAYS) {
            Edge.denied("tray " + t, 1, x -> x.tray(t, 0, 1));
            Edge.denied("write " + t, 1, x -> x.write(t, 0, 1));
            Edge.refused("read " + t, 1, x -> x.read(t, 0));
            Edge.denied("pour from " + t, 1, x -> x.pour(t, 0, 0, 0, 1));
            Edge.denied("pour to " + t, 1, x -> x.pour(0, 0, t, 0, 1));
        }
    }

    private static void noOtherTrayForRows() {
        for (int t : NO_TRAYS) {
            Edge.refused("pourOut " + t, 1, x -> x.pourOut(0, t));
            Edge.refused("atOnce " + t, 1, x -> x.atOnce(0, 1, t));
            Edge.refused("couples " + t, 1, x -> x.couples(t, 1));
            Edge.refused("echoed " + t, 1, x -> x.echoed(0, 0, t));
            Edge.refused("beside " + t, 1, x -> x.beside(t, 1, 0, 0));
        }
    }

    private static void noOtherTrayForThree() {
        for (int t : NO_TRAYS) {
            Edge.denied("third a " + t, 1, x -> x.third(t, 1, 0, 1));
            Edge.denied("third b " + t, 1, x -> x.third(0, t, 1, 1));
            Edge.denied("third to " + t, 1, x -> x.third(0, 1, t, 1));
            Edge.denied("second a " + t, 1, x -> x.second(t, 1, 0, 1));
            Edge.denied("second third " + t, 1, x -> x.second(0, t, 1, 1));
            Edge.denied("second to " + t, 1, x -> x.second(0, 1, t, 1));
        }
    }

    // Terms: "are MISSING at first"; "3 the TRAY is MISSING"
    private static void traysAreMissingAtFirst() {
        Edge.denied("write", 3, x -> x.write(3, 0, 1));
        Edge.refused("read", 3, x -> x.read(3, 0));
        Edge.denied("pour from", 3, x -> x.pour(3, 0, 0, 0, 1));
        Edge.denied("pour to", 3, x -> x.pour(0, 0, 3, 0, 1));
        Edge.denied("pour from and to", 3, x -> x.pour(3, 0, 3, 0, 0));
        EchoJars x = new EchoJars();
        Check.done("one without places is there", x, x.tray(3, 0, 0));
        Check.refused("and has none", x, x.read(3, 0), 4);
    }

    private static void missingForRows() {
        Edge.refused("pourOut", 3, x -> x.pourOut(0, 3));
        Edge.refused("pourOut of nothing HEARD", 3, x -> x.pourOut(3, 3));
        Edge.refused("atOnce", 3, x -> x.atOnce(0, 1, 3));
        Edge.refused("couples", 3, x -> x.couples(3, 1));
        Edge.refused("echoed", 3, x -> x.echoed(0, 0, 3));
        Edge.refused("beside", 3, x -> x.beside(3, 1, 0, 0));
        Edge.denied("third a", 3, x -> x.third(3, 1, 0, 1));
        Edge.denied("third b", 3, x -> x.third(0, 3, 1, 1));
        Edge.denied("third to", 3, x -> x.third(0, 1, 3, 1));
        Edge.denied("second a", 3, x -> x.second(3, 1, 0, 1));
        Edge.denied("second third", 3, x -> x.second(0, 3, 1, 1));
        Edge.denied("second to", 3, x -> x.second(0, 1, 3, 1));
    }

    // STATUS "1 no such TRAY (or sort)"
    private static void sortsAreFour() {
        for (int sort : new int[] {-1, 4, Integer.MIN_VALUE, Integer.MAX_VALUE}) {
            Edge.denied("sort " + sort, 1, x -> x.tray(0, sort, 1));
            Edge.denied("sort " + sort + " for a MISSING one", 1, x -> x.tray(3, sort, 1));
        }
        for (int sort = 0; sort < 4; sort++) {
            EchoJars x = new EchoJars();
            Check.done("sort " + sort, x, x.tray(0, sort, 1));
        }
    }

    // Terms: "numbers of 8 bits (sort 0), 16 (1), 32 (2) or 64 (3), with sign; what is written is cut to these"
    private static void writtenIsCut() {
        for (int sort = 0; sort < 4; sort++) {
            EchoJars x = new EchoJars();
            x.tray(0, sort, 3);
            int bits = 8 << sort;
            long most = bits == 64 ? Long.MAX_VALUE : (1L << bits - 1) - 1;
            cut(x, sort, most, most);
            cut(x, sort, -most - 1, -most - 1);
            cut(x, sort, most + 1, -most - 1);
            cut(x, sort, -most - 2, most);
            cut(x, sort, -1, -1);
            cut(x, sort, 0, 0);
            cut(x, sort, Long.MAX_VALUE, bits == 64 ? Long.MAX_VALUE : -1);
            cut(x, sort, Long.MIN_VALUE, bits == 64 ? Long.MIN_VALUE : 0);
            cut(x, sort, (1L << 40) + 77, bits == 64 ? (1L << 40) + 77 : 77);
        }
    }

    private static void cut(EchoJars x, int sort, long v, long due) {
        Check.done("write " + v + " by sort " + sort, x, x.write(0, 1, v));
        Check.fine("read " + v + " by sort " + sort, x, x.read(0, 1), due);
        Check.same("ahead of it", x.read(0, 0), 0);
        Check.same("behind it", x.read(0, 2), 0);
    }

    // Promise 5: "so many numbers (at most 60; 5)"
    private static void sixtyAtMost() {
        EchoJars x = new EchoJars();
        Check.done("60", x, x.tray(0, 0, 60));
        Check.done("the last place", x, x.write(0, 59, 8));
        Check.fine("the last place", x, x.read(0, 59), 8);
        Check.refused("none behind it", x, x.read(0, 60), 4);
        Edge.denied("61", 5, y -> y.tray(0, 0, 61));
        Edge.denied("61 for a MISSING one", 5, y -> y.tray(3, 0, 61));
        Edge.denied("very many", 5, y -> y.tray(0, 0, Integer.MAX_VALUE));
    }

    // STATUS "6 below 0 (a TRAY's length)"
    private static void noneBelowZero() {
        Edge.denied("-1", 6, x -> x.tray(0, 0, -1));
        Edge.denied("-1 for a MISSING one", 6, x -> x.tray(3, 0, -1));
        Edge.denied("very few", 6, x -> x.tray(0, 0, Integer.MIN_VALUE));
        EchoJars x = Edge.full();
        Check.done("0", x, x.tray(0, 0, 0));
        Check.refused("no place", x, x.read(0, 0), 4);
    }

    // "STATUS of a call is the first of these that holds": 1 ahead of 5 and of 6
    private static void trayOrder() {
        Edge.denied("no TRAY ahead of 61", 1, x -> x.tray(4, 0, 61));
        Edge.denied("no TRAY ahead of -1", 1, x -> x.tray(-1, 0, -1));
        Edge.denied("no sort ahead of 61", 1, x -> x.tray(0, 4, 61));
        Edge.denied("no sort ahead of -1", 1, x -> x.tray(0, -1, -1));
        Edge.denied("no TRAY ahead of MISSING for write", 1, x -> x.write(4, 99, 0));
        Edge.denied("MISSING ahead of places for write", 3, x -> x.write(3, 99, 0));
        Edge.refused("MISSING ahead of places for read", 3, x -> x.read(3, -1));
    }

    // Promise 5: "a row of so many numbers, all 0"
    private static void laidIsAllZero() {
        EchoJars x = new EchoJars();
        x.tray(0, 3, 60);
        for (int k = 0; k < 60; k++) {
            x.write(0, k, -1 - k);
        }
        Check.done("laid anew", x, x.tray(0, 3, 30));
        Check.done("and longer", x, x.tray(0, 3, 60));
        for (int k = 0; k < 60; k++) {
            Check.fine("place " + k, x, x.read(0, k), 0);
        }
        x.write(0, 4, 9);
        Check.done("another sort", x, x.tray(0, 0, 5));
        Check.fine("0 again", x, x.read(0, 4), 0);
    }

    // STATUS "4 a place that the TRAY has not", of promises 6 and 7
    private static void placesOfWriteAndRead() {
        for (int place : new int[] {-1, 3, 60, Integer.MIN_VALUE, Integer.MAX_VALUE}) {
            Edge.denied("write to " + place, 4, x -> x.write(2, place, 1));
            Edge.refused("read from " + place, 4, x -> x.read(2, place));
        }
        EchoJars x = Edge.full();
        Check.done("the last one", x, x.write(2, 2, 6));
        Check.fine("is there", x, x.read(2, 2), 6);
        Check.fine("the first one stays", x, x.read(2, 0), 7);
    }

    // Promise 7: "STATUS tells NONE from -1"
    private static void statusTellsNoneFromMinusOne() {
        EchoJars x = new EchoJars();
        x.tray(0, 3, 1);
        x.write(0, 0, -1);
        Check.fine("-1", x, x.read(0, 0), -1);
        Check.refused("NONE", x, x.read(0, 1), 4);
        Check.fine("-1 again", x, x.read(0, 0), -1);
    }

    // Promise 8: "1, 3 (either), 11, 6, 4, asked in this order"
    private static void pourOrder() {
        Edge.denied("1 ahead of all", 1, x -> x.pour(4, 99, 3, 99, -1));
        Edge.denied("1 of the second ahead of all", 1, x -> x.pour(3, 99, -1, 99, -1));
        Edge.denied("3 ahead of 11, 6, 4", 3, x -> x.pour(3, 99, 2, 99, -1));
        Edge.denied("3 of the second ahead of 11, 6, 4", 3, x -> x.pour(2, 99, 3, 99, -1));
        Edge.denied("11 ahead of 6 and 4", 11, x -> x.pour(0, 99, 2, 99, -1));
        Edge.denied("11 the other way", 11, x -> x.pour(2, 0, 0, 0, 1));
        Edge.denied("11 of none", 11, x -> x.pour(2, 0, 0, 0, 0));
        Edge.denied("6 ahead of 4", 6, x -> x.pour(0, 99, 1, 99, -1));
        Edge.denied("6", 6, x -> x.pour(0, 0, 1, 0, Integer.MIN_VALUE));
    }

    // STATUS "4 a place that the TRAY has not, or too few numbers", of promise 8: TRAY 0 has 9, TRAY 1 has 6
    private static void pourPlaces() {
        Edge.denied("from -1", 4, x -> x.pour(0, -1, 1, 0, 1));
        Edge.denied("from 9", 4, x -> x.pour(0, 9, 1, 0, 1));
        Edge.denied("to -1", 4, x -> x.pour(0, 0, 1, -1, 1));
        Edge.denied("to 6", 4, x -> x.pour(0, 0, 1, 6, 1));
        Edge.denied("too few numbers", 4, x -> x.pour(0, 7, 1, 0, 3));
        Edge.denied("too few places", 4, x -> x.pour(0, 0, 1, 4, 3));
        Edge.denied("none from 10", 4, x -> x.pour(0, 10, 1, 0, 0));
        Edge.denied("none to 7", 4, x -> x.pour(0, 0, 1, 7, 0));
        Edge.denied("none from -1", 4, x -> x.pour(0, -1, 1, 0, 0));
        Edge.denied("none to -1", 4, x -> x.pour(0, 0, 1, -1, 0));
        Edge.denied("from far", 4, x -> x.pour(0, Integer.MAX_VALUE, 1, 0, 1));
        Edge.denied("to far", 4, x -> x.pour(0, 0, 1, Integer.MAX_VALUE, 1));
        Edge.denied("so many that it wraps around", 4, x -> x.pour(0, 2, 1, 2, Integer.MAX_VALUE));
        Edge.denied("within the same", 4, x -> x.pour(0, 0, 0, 1, 9));
        Edge.same("none", Edge::full, x -> x.pour(0, 3, 1, 2, 0) ? 1 : 0, 1, 0);
    }

    private static void row(String what, EchoJars x, int tray, String due) {
        Texts.row(what, Texts.told(x, tray, due.length()), due);
    }

    // Promise 8: "come to place j on of another one, as they were"
    private static void pourAsTheyWere() {
        EchoJars x = Edge.full();
        Check.done("the last three to the last three", x, x.pour(0, 6, 1, 3, 3));
        row("the other one", x, 1, "zyxzab");
        row("stays", x, 0, "abc.xyzab");
        Check.done("all of the shorter", x, x.pour(1, 0, 0, 0, 6));
        row("the first six", x, 0, "zyxzabzab");
        Check.done("one", x, x.pour(1, 5, 0, 8, 1));
        row("the last one", x, 0, "zyxzabzab");
    }

    // Promise 8: "or the same, as they were"
    private static void pourIntoTheSame() {
        EchoJars x = Edge.full();
        Check.done("ahead", x, x.pour(0, 0, 0, 1, 8));
        row("ahead", x, 0, "aabc.xyza");
        Check.done("back", x, x.pour(0, 1, 0, 0, 8));
        row("back", x, 0, "abc.xyzaa");
        Check.done("onto itself", x, x.pour(0, 0, 0, 0, 9));
        row("onto itself", x, 0, "abc.xyzaa");
    }

    // Section 5: "status(), fault(), feed(), top(), bottom() have none"
    private static void someCallsHaveNoStatus() {
        EchoJars x = Edge.full();
        x.back();
        x.back();
        Check.same("8", x.status(), 8);
        x.fault(0);
        x.fault(7);
        x.top();
        x.bottom();
        Check.same("still 8", x.status(), 8);
        while (x.feed(0, 0, 0, 0, 0) >= 0) {
            Check.same("still 8 behind feed()", x.status(), 8);
        }
        Check.same("and behind a feed() that is too much", x.status(), 8);
        Check.same("and behind status()", x.status(), 8);
        Check.fine("the next call with one", x, x.many(0), 1);
    }

    // Promises 3 and 4: "of the FRACTION told latest"; a refused call "changes nothing but STATUS"
    private static void fractionStays() {
        EchoJars x = Edge.full();
        Check.fraction("DOUBLES of 8 for 2 days", x, 7, 16);
        Check.denied("refused", x, x.safe(2, 0, 0), 5);
        Check.denied("refused", x, x.odds(9, 1, 0, 1), 2);
        Check.fraction("stays", x, 7, 16);
        x.mark();
        Texts.shop(x, "");
        x.back();
        Check.fraction("also by another SHOP and back", x, 7, 16);
    }

    // Not promised: "Nothing is promised beyond the answers and state changes described above"
    private static void askingChangesNothing() {
        Edge.Asks[] calls = {x -> x.read(0, 0), x -> x.many(0), x -> x.letter(0, 0), x -> x.jar(0, 0), x -> x.heard(0),
            x -> x.heardAt(0, 0), x -> x.lost(0), x -> x.silent(0), x -> x.loudest(9, 0), x -> x.couples(0, 3),
            x -> x.mixes(1, 2), x -> x.others(1, 2), x -> x.clearest(0, 1, 0), x -> x.beside(0, 3, 0, 0),
            x -> x.fits(3), x -> x.places(0, 0), x -> x.speaks(0), x -> x.kinds(7), x -> x.laps(0, 1),
            x -> x.since(0, 1, 0), x -> x.far(0, 0), x -> x.common(0, 1), x -> x.fillFrom(0, 0, 1),
            x -> x.keeps(0, 1), x -> x.fewest(0, 0), x -> x.cheapest(0, 0, 1), x -> x.witness(0),
            x -> x.brokeOn(2), x -> x.anyTwo(0, 1, 2), x -> x.mergedAt(0), x -> x.chainAt(0), x -> x.shelfAt(0)};
        for (int k = 0; k < calls.length; k++) {
            long due = calls[k].of(Edge.full());
            Edge.asked("asking " + k, due, calls[k]);
        }
    }

    // Section 4: "told without a common divisor, the bottom above 0; 0 is 0 by 1"
    private static void fractionsHaveNoCommonDivisor() {
        EchoJars x = Edge.of("sound s ab;jar j size 1 leaks 0 breaks 4;", "", 0);
        Check.done("12 by 16", x, x.safe(0, 1, 0));
        Check.fraction("12 by 16", x, 3, 4);
        Check.done("0 by 20", x, x.odds(0, 1, 0, 20));
        Check.fraction("0 by 20", x, 0, 1);
        x = Edge.of("sound s ab;jar j size 1 leaks 0;fill j of s from 0 on 0;", "", 0);
        Check.done("20 by 20", x, x.odds(0, 1, 0, 20));
        Check.fraction("20 by 20", x, 1, 1);
    }
}
