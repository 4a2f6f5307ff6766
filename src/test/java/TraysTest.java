/** Promises 1 to 8: a new object, STATUS, FRACTION and TRAYS. */
public final class TraysTest {
    private TraysTest() {
    }

    public static void main(String[] args) {
        newObject();
        statusAndFraction();
        tray();
        write();
        read();
        pour();
        Check.finish();
    }

    private static void newObject() {
        EchoJars x = new EchoJars();
        Check.same("NONE", EchoJars.NONE, -1);
        Check.same("status", x.status(), 0);
        Check.fraction("new", x, 0, 1);
        Check.same("fault(0)", x.fault(0), -1);
        Check.same("fault(1)", x.fault(1), -1);
        for (int what = 0; what < 5; what++) {
            Check.fine("many " + what, x, x.many(what), 0);
        }
        for (int tray = 0; tray < 4; tray++) {
            Check.refused("read " + tray, x, x.read(tray, 0), 3);
        }
        Check.refused("brokeOn", x, x.brokeOn(0), 2);
        Check.refused("shelfAt", x, x.shelfAt(0), 8);
        Check.refused("chainAt", x, x.chainAt(0), 8);
        Check.refused("mergedAt", x, x.mergedAt(0), 8);
        Check.refused("back", x, x.back(), 8);
        Check.refused("shop of an empty tape", x, x.shop(1), 5);
        Check.same("the first twenty", x.feed(0, 0, 0, 0, 0), 20);
        EchoJars other = new EchoJars();
        other.tray(0, 0, 1);
        Check.refused("no object knows another", x, x.read(0, 0), 3);
    }

    private static void statusAndFraction() {
        EchoJars x = Texts.opened("sound s ab; jar j size 2 leaks 1 breaks 4;");
        Check.done("safe", x, x.safe(0, 1, 0));
        Check.fraction("safe", x, 3, 4);
        Check.denied("safe of no days", x, x.safe(0, 0, 0), 5);
        Check.fraction("a refused call leaves it", x, 3, 4);
        x.feed(0, 0, 0, 0, 0);
        x.fault(0);
        x.top();
        x.bottom();
        Check.same("these have no STATUS", x.status(), 5);
        Check.same("nor has it itself", x.status(), 5);
        Check.done("the next call's STATUS", x, x.day(1));
        Check.done("odds of none", x, x.odds(0, 1, 0, 7));
        Check.fraction("0 is 0 by 1", x, 0, 1);
    }

    private static void tray() {
        EchoJars x = new EchoJars();
        Check.denied("tray -1", x, x.tray(-1, 0, 1), 1);
        Check.denied("tray 4", x, x.tray(4, 0, 1), 1);
        Check.denied("sort -1", x, x.tray(0, -1, 1), 1);
        Check.denied("sort 4", x, x.tray(0, 4, 1), 1);
        Check.denied("sort ahead of length", x, x.tray(0, 4, 61), 1);
        Check.denied("61 numbers", x, x.tray(0, 0, 61), 5);
        Check.denied("-1 numbers", x, x.tray(0, 0, -1), 6);
        Check.denied("very few", x, x.tray(0, 0, Integer.MIN_VALUE), 6);
        Check.denied("very many", x, x.tray(0, 0, Integer.MAX_VALUE), 5);
        Check.refused("still MISSING", x, x.read(0, 0), 3);
        Check.done("60 numbers", x, x.tray(0, 3, 60));
        Check.fine("the last", x, x.read(0, 59), 0);
        Check.refused("behind it", x, x.read(0, 60), 4);
        Check.done("none at all", x, x.tray(1, 3, 0));
        Check.refused("is there, without places", x, x.read(1, 0), 4);
        x.write(0, 3, 9);
        Check.denied("a refused one changes nothing", x, x.tray(0, 0, 61), 5);
        Check.fine("as it was", x, x.read(0, 3), 9);
        Check.done("laid anew", x, x.tray(0, 1, 5));
        Check.fine("all 0", x, x.read(0, 3), 0);
        Check.done("longer again", x, x.tray(0, 1, 60));
        Check.fine("0 there, too", x, x.read(0, 59), 0);
    }

    private static void write() {
        EchoJars x = new EchoJars();
        long v = 0x1122334455667788L;
        long[] cut = {(byte) 0x88, 0x7788, 0x55667788, v};
        long[] under = {0x78, (short) 0x8778, 0x66778778 | 0, 0x8899aabb66778778L};
        for (int sort = 0; sort < 4; sort++) {
            x.tray(sort, sort, 3);
            Check.done("write " + sort, x, x.write(sort, 1, v));
            Check.fine("cut " + sort, x, x.read(sort, 1), cut[sort]);
            x.write(sort, 2, 0x8899aabb66778778L);
            Check.fine("with sign " + sort, x, x.read(sort, 2), under[sort]);
            Check.fine("beside " + sort, x, x.read(sort, 0), 0);
        }
        Check.denied("tray 4", x, x.write(4, 0, 1), 1);
        Check.denied("tray -1", x, x.write(-1, 9, 1), 1);
        Check.denied("place 3", x, x.write(0, 3, 1), 4);
        Check.denied("place -1", x, x.write(0, -1, 1), 4);
        EchoJars y = new EchoJars();
        Check.denied("MISSING", y, y.write(0, 3, 1), 3);
    }

    private static void read() {
        EchoJars x = new EchoJars();
        x.tray(2, 0, 2);
        x.write(2, 1, -1);
        Check.fine("-1 by STATUS 0", x, x.read(2, 1), -1);
        Check.refused("NONE", x, x.read(2, 2), 4);
        Check.refused("place -1", x, x.read(2, -1), 4);
        Check.refused("tray 4", x, x.read(4, 0), 1);
        Check.refused("tray -1", x, x.read(-1, 0), 1);
        Check.refused("MISSING", x, x.read(3, 0), 3);
    }

    private static EchoJars poured() {
        EchoJars x = new EchoJars();
        x.tray(0, 2, 6);
        x.tray(1, 2, 4);
        x.tray(2, 1, 4);
        for (int k = 0; k < 6; k++) {
            x.write(0, k, k + 1);
        }
        return x;
    }

    private static void row(String what, EchoJars x, int tray, long... due) {
        for (int k = 0; k < due.length; k++) {
            Check.fine(what + " " + k, x, x.read(tray, k), due[k]);
        }
    }

    private static void pour() {
        EchoJars x = poured();
        Check.done("to another one", x, x.pour(0, 2, 1, 1, 3));
        row("another one", x, 1, 0, 3, 4, 5);
        Check.done("ahead in the same", x, x.pour(0, 0, 0, 2, 4));
        row("as they were", x, 0, 1, 2, 1, 2, 3, 4);
        x = poured();
        Check.done("back in the same", x, x.pour(0, 2, 0, 0, 4));
        row("as they were", x, 0, 3, 4, 5, 6, 5, 6);
        Check.done("none", x, x.pour(0, 5, 1, 3, 0));
        row("none came", x, 1, 0, 0, 0, 0);
        Check.denied("tray 4", x, x.pour(4, 0, 3, 0, -1), 1);
        Check.denied("to tray -1", x, x.pour(3, 0, -1, 0, -1), 1);
        Check.denied("MISSING", x, x.pour(3, 0, 2, 0, -1), 3);
        Check.denied("to a MISSING one", x, x.pour(2, 0, 3, 0, -1), 3);
        Check.denied("unlike sorts", x, x.pour(0, 9, 2, 0, -1), 11);
        Check.denied("-1 numbers", x, x.pour(0, 9, 1, 0, -1), 6);
        Check.denied("too few numbers", x, x.pour(0, 4, 1, 0, 3), 4);
        Check.denied("too few places", x, x.pour(0, 0, 1, 3, 2), 4);
        Check.denied("from -1", x, x.pour(0, -1, 1, 0, 1), 4);
        Check.denied("to -1", x, x.pour(0, 0, 1, -1, 1), 4);
        Check.denied("far", x, x.pour(0, Integer.MAX_VALUE, 1, 0, 1), 4);
        Check.denied("very many", x, x.pour(0, 1, 1, 1, Integer.MAX_VALUE), 4);
        row("nothing changed", x, 1, 0, 0, 0, 0);
    }
}
