/**
 * A call at the edge of what it takes. It is asked of an object in which all that can change has changed (or of one
 * that a test makes), and all that can be asked is told of it, and of another one made alike without the call.
 */
final class Edge {
    /** Four JARS, the last EMPTY; on day 4 are HEARD inga, gab, bl and nothing. */
    private static final String SHOP = "sound oath ringabell;sound joy gable;sound hum zzz;"
            + "jar ja size 5 leaks 2 head costs 3;jar jb size 4 leaks 3 tail costs 2 worth 2;"
            + "jar jc size 6 leaks 1 costs 9 breaks 8;jar jd size 3 leaks 0 costs 1;"
            + "fill ja of oath from 0 on 2;fill jb of oath from 3 on 0;fill jc of joy from 0 on 1;";
    private static final String LAW = "mix b with l gives x;mix rest with rest gives r;mix any with q gives second;";

    interface Asks {
        long of(EchoJars x);
    }

    interface Does {
        boolean to(EchoJars x);
    }

    interface Makes {
        EchoJars made();
    }

    private Edge() {
    }

    /** Every thing that an object has is there: TRAYS but the fourth, SHOP, DAY, LAW, a MARK, a ROAD, a FAULT, a tape. */
    static EchoJars full() {
        EchoJars x = new EchoJars();
        Texts.shop(x, "sound m ab;jar n size 2 leaks 0 breaks 3;fill n of m from 0 on 0;");
        Texts.law(x, "mix a with b gives c;");
        x.day(3);
        x.mark();
        Texts.shop(x, SHOP);
        Texts.law(x, LAW);
        x.day(4);
        Texts.lay(x, 0, "abc.xyzab");
        Texts.lay(x, 1, "zyx.ab");
        x.tray(2, 0, 3);
        x.write(2, 0, 7);
        x.road(1, 2);
        x.safe(2, 2, 1);
        x.merged(7);
        x.chain(1);
        x.shelf();
        Texts.feed(x, "mix?");
        x.law(4);
        Texts.feed(x, "mix z with z gives q");
        x.day(4);
        return x;
    }

    /** The same with an empty tape (and the FAULT of what was on it), so that other texts can come. */
    static EchoJars emptyTape() {
        EchoJars x = full();
        x.shop(20);
        return x;
    }

    /** Eight SOUNDS, each of 16 LETTERS of its own kind, and eight JARS of twelve of these, one that leaks a day. */
    static EchoJars eight() {
        StringBuilder text = new StringBuilder();
        for (char c = 'a'; c < 'i'; c++) {
            text.append("sound s").append(c).append(' ').append(("" + c).repeat(16)).append(";jar j").append(c)
                    .append(" size 12 leaks ").append(c == 'h' ? 1 : 0).append(" breaks ").append(c == 'h' ? 10 : 0)
                    .append(";fill j").append(c).append(" of s").append(c).append(" from 0 on ")
                    .append(c == 'h' ? 1 : 0).append(";");
        }
        return of(text.toString(), "", 1);
    }

    /** All that can be asked of an object but STATUS; what changes it comes last. */
    static String everything(EchoJars x) {
        StringBuilder told = new StringBuilder();
        tell(told, "fraction", x.top(), x.bottom());
        tell(told, "fault", x.fault(0), x.fault(1));
        row(told, "merged", x::mergedAt);
        row(told, "chain", x::chainAt);
        row(told, "shelf", x::shelfAt);
        for (int tray = 0; tray < 4; tray++) {
            int from = tray;
            row(told, "tray " + tray, place -> (int) x.read(from, place));
            tell(told, "status", x.status());
        }
        shop(told, x);
        tell(told, "fed", x.feed(0x3b202020, 0x20202020, 0x20202020, 0x20202020, 0x20202020));
        tell(told, "law", x.law(40), x.status(), x.fault(0), x.fault(1), x.mixes(26, 26));
        for (int tray = 0; tray < 4; tray++) {
            x.write(tray, 0, 0x0102030481828384L);
            tell(told, "sort", x.read(tray, 0));
        }
        for (int left = x.back(); left >= 0; left = x.back()) {
            tell(told, "left", left);
            shop(told, x);
        }
        return told.toString();
    }

    private static void shop(StringBuilder told, EchoJars x) {
        tell(told, "many", x.many(0), x.many(1), x.many(2), x.many(3), x.many(4));
        for (int sound = 0; sound < x.many(0); sound++) {
            int asked = sound;
            row(told, "sound", k -> x.letter(asked, k));
        }
        for (int jar = 0; jar < x.many(1); jar++) {
            int asked = jar;
            row(told, "jar", what -> x.jar(asked, what));
            row(told, "heard", k -> x.heardAt(asked, k));
            tell(told, "broke", x.brokeOn(jar));
        }
        tell(told, "mixes", x.mixes(1, 2), x.mixes(2, 12), x.mixes(0, 0), x.mixes(5, 17), x.mixes(26, 26));
    }

    private interface Told {
        int at(int k);
    }

    private static void row(StringBuilder told, String what, Told row) {
        told.append(what);
        for (int k = 0; k < 60; k++) {
            int v = row.at(k);
            if (v == EchoJars.NONE) {
                break;
            }
            told.append(' ').append(v);
        }
        told.append('\n');
    }

    private static void tell(StringBuilder told, String what, long... values) {
        told.append(what);
        for (long v : values) {
            told.append(' ').append(v);
        }
        told.append('\n');
    }

    /** The answer and STATUS of a call on a full object, where nothing else changes. */
    static void asked(String what, long due, Asks call) {
        same(what, Edge::full, call, due, 0);
    }

    static void refused(String what, int status, Asks call) {
        same(what, Edge::full, call, EchoJars.NONE, status);
    }

    static void denied(String what, int status, Does call) {
        same(what, Edge::full, x -> call.to(x) ? 1 : 0, 0, status);
    }

    static void refused(String what, Makes makes, int status, Asks call) {
        same(what, makes, call, EchoJars.NONE, status);
    }

    static void denied(String what, Makes makes, int status, Does call) {
        same(what, makes, x -> call.to(x) ? 1 : 0, 0, status);
    }

    /** A call that answers, leaves a STATUS, and changes nothing else that can be asked. */
    static void same(String what, Makes makes, Asks call, long due, int status) {
        EchoJars x = makes.made();
        statusBut(x, status);
        Check.same(what, call.of(x), due);
        Check.same(what + ": status", x.status(), status);
        String left = everything(x);
        String ahead = everything(makes.made());
        if (!left.equals(ahead)) {
            System.out.println(what + " has changed\n" + ahead + "to\n" + left);
        }
        Check.is(what + ": nothing changes", left.equals(ahead));
    }

    // so that the STATUS that is due can't be the one that was there
    private static void statusBut(EchoJars x, int status) {
        if (status == 0) {
            Check.denied("another STATUS ahead", x, x.tray(-1, 0, 0), 1);
        } else {
            Check.is("STATUS 0 ahead", x.many(0) >= 0 && x.status() == 0);
        }
    }

    /** An object of a SHOP, a LAW, a DAY. */
    static EchoJars of(String shop, String law, int day) {
        EchoJars x = new EchoJars();
        Check.is("taken: " + shop, Texts.shop(x, shop) >= 0);
        Check.is("taken: " + law, Texts.law(x, law) >= 0);
        Check.done("day " + day, x, x.day(day));
        return x;
    }
}
