import java.lang.reflect.Method;
import java.util.ArrayList;
import java.util.Arrays;
import java.util.Comparator;
import java.util.List;
import java.util.Random;

/**
 * Runs of calls by fixed seeds, each answered by EchoJars and by Model, that must agree on all that can be asked. No
 * object is used for more than the 512 calls for which the document promises anything.
 */
public final class RandomRunsTest {
    private static final int RUNS = 2500;
    private static final int SWEEPS = 120;
    // a text takes some fifty calls more, what is asked behind each call five
    private static final int CALLS = 440;
    private static final String[] POOL = {"sound", "jar", "size", "leaks", "head", "tail", "costs", "worth", "breaks",
        "fill", "of", "from", "on", "mix", "with", "gives", "any", "same", "rest", "first", "second", ";", "0", "1",
        "12", "13", "15", "16", "99", "100", "999", "1000", "9999", "10000", "00000", "0007", "a", "b", "ab", "n", "s",
        "abcdefgh", "abcdefghi", "abcdefghijklmnop", "abcdefghijklmnopq", "A", "?", "\t", "\u00e4", "\u0000", ":"};
    private static Random random;
    private static int spent;

    private RandomRunsTest() {
    }

    public static void main(String[] args) throws Exception {
        List<Method> calls = face();
        for (int run = 0; run < RUNS; run++) {
            random = new Random(run);
            EchoJars x = new EchoJars();
            Model m = new Model();
            spent = 0;
            layTrays(x, m);
            StringBuilder told = new StringBuilder();
            for (int k = 0; spent < CALLS; k++) {
                String what = k == 0 || random.nextInt(40) == 0 ? text(x, m, k > 0) : call(calls, x, m);
                told.append(what).append('\n');
                if (!agree(x, m, run, what)) {
                    System.out.println(told);
                    Check.finish();
                }
            }
        }
        for (int run = RUNS; run < RUNS + SWEEPS; run++) {
            sweep(run);
        }
        Check.finish();
    }

    private static boolean agree(EchoJars x, Model m, int run, String what) {
        String at = "run " + run + ": behind " + what + ": ";
        boolean alike = same(at + "status", x.status(), m.status());
        // the others change seldom, so they are asked in turn
        switch (spent % 4) {
            case 0:
                alike &= same(at + "top", x.top(), m.top());
                break;
            case 1:
                alike &= same(at + "bottom", x.bottom(), m.bottom());
                break;
            case 2:
                alike &= same(at + "fault(0)", x.fault(0), m.fault(0));
                break;
            default:
                alike &= same(at + "fault(1)", x.fault(1), m.fault(1));
                break;
        }
        spent += 2;
        return alike && !what.startsWith("!");
    }

    private static boolean same(String what, long got, long due) {
        Check.same(what, got, due);
        return got == due;
    }

    private static List<Method> face() {
        List<Method> calls = new ArrayList<>();
        for (Method method : EchoJars.class.getDeclaredMethods()) {
            if (java.lang.reflect.Modifier.isPublic(method.getModifiers())) {
                calls.add(method);
            }
        }
        calls.sort(Comparator.comparing(Method::getName));
        return calls;
    }

    private static boolean isRare(String name) {
        return Arrays.asList("shop", "law", "tray", "back", "feed", "fault", "status", "top", "bottom").contains(name);
    }

    /** Every question about one shop, on some days: all jars, pairs, sets and sounds. */
    private static void sweep(int run) {
        Random steps = new Random(-run);
        for (int day = 0; day < 12; day += 1 + steps.nextInt(6)) {
            String at = "sweep " + run + ", day " + day + ": ";
            for (int k = 0; k < 8; k++) {
                sweepThing(at, run, day, k);
            }
            for (int set = steps.nextInt(9); set < 256; set += 1 + steps.nextInt(9)) {
                sweepSet(at, run, day, set);
            }
        }
    }

    /** A new object and a new model, the same for the same run and day. */
    private static void open(int run, int day, EchoJars x, Model m) {
        random = new Random(run);
        text(x, m, false);
        Check.is("tray", x.tray(0, 0, 12) == m.tray(0, 0, 12));
        Check.is("day", x.day(day) == m.day(day));
    }

    private static void sweepThing(String at, int run, int day, int k) {
        EchoJars x = new EchoJars();
        Model m = new Model();
        open(run, day, x, m);
        Check.same(at + "shelf", x.shelf(), m.shelf());
        Check.same(at + "shelfAt " + k, x.shelfAt(k), m.shelfAt(k));
        Check.same(at + "witness " + k, x.witness(k), m.witness(k));
        Check.same(at + "speaks " + k, x.speaks(k), m.speaks(k));
        Check.same(at + "pieces " + k, x.pieced(k, 0), m.pieced(k, 0));
        Check.same(at + "joins " + k, x.pieced(k, 1), m.pieced(k, 1));
        Check.same(at + "lost " + k, x.lost(k), m.lost(k));
        Check.same(at + "chain " + k, x.chain(k), m.chain(k));
        for (int n = 0; n < 8; n++) {
            Check.same(at + "chainAt " + k + " " + n, x.chainAt(n), m.chainAt(n));
            sweepPair(at, x, m, k, n);
        }
    }

    private static void sweepSet(String at, int run, int day, int set) {
        EchoJars x = new EchoJars();
        Model m = new Model();
        open(run, day, x, m);
        Check.same(at + "fits " + set, x.fits(set), m.fits(set));
        Check.same(at + "kinds " + set, x.kinds(set), m.kinds(set));
        Check.same(at + "merged " + set, x.merged(set), m.merged(set));
        for (int k = 0; k < 72; k++) {
            Check.same(at + "mergedAt " + k + " of " + set, x.mergedAt(k), m.mergedAt(k));
        }
    }

    private static void sweepPair(String at, EchoJars x, Model m, int a, int b) {
        String pair = " " + a + " " + b;
        Check.same(at + "heardAt" + pair, x.heardAt(a, b), m.heardAt(a, b));
        Check.same(at + "places" + pair, x.places(a, b), m.places(a, b));
        Check.same(at + "laps" + pair, x.laps(a, b), m.laps(a, b));
        Check.same(at + "far" + pair, x.far(a, b), m.far(a, b));
        Check.same(at + "common" + pair, x.common(a, b), m.common(a, b));
        Check.same(at + "fillFrom" + pair, x.fillFrom(a, b, 2), m.fillFrom(a, b, 2));
        Check.same(at + "clearest" + pair, x.clearest(a, b, 0), m.clearest(a, b, 0));
        Check.same(at + "fewest" + pair, x.fewest(a, b), m.fewest(a, b));
        Check.same(at + "cost" + pair, x.cheapest(a, b, 0), m.cheapest(a, b, 0));
        Check.same(at + "cheapest" + pair, x.cheapest(a, b, 1), m.cheapest(a, b, 1));
        Check.same(at + "loudest" + pair, x.loudest(a * b, 0), m.loudest(a * b, 0));
        Check.same(at + "atOnce" + pair, x.atOnce(a, b, 0), m.atOnce(a, b, 0));
        for (int k = 0; k < 12; k++) {
            Check.same(at + "atOnce" + pair + " read " + k, x.read(0, k), m.read(0, k));
        }
    }

    /** Three TRAYS with rows of LETTERS, the first perhaps with RESTS; the last one may be MISSING, or of another sort. */
    private static void layTrays(EchoJars x, Model m) {
        for (int tray = 0; tray < (random.nextInt(3) == 0 ? 3 : 4); tray++) {
            int sort = random.nextInt(6) == 0 ? random.nextInt(4) : 1;
            int many = random.nextInt(20) == 0 ? 60 : random.nextInt(16);
            spent += many + 1;
            Check.is("tray", x.tray(tray, sort, many) == m.tray(tray, sort, many));
            for (int k = 0; k < many; k++) {
                int v = tray == 0 && random.nextInt(4) == 0 ? 0 : tray > 1 ? random.nextInt(7) : 1 + random.nextInt(26);
                Check.is("write", x.write(tray, k, v) == m.write(tray, k, v));
            }
        }
    }

    private static String call(List<Method> calls, EchoJars x, Model m) throws Exception {
        Method method = calls.get(random.nextInt(calls.size()));
        while (isRare(method.getName()) && random.nextInt(12) != 0) {
            method = calls.get(random.nextInt(calls.size()));
        }
        Class<?>[] types = method.getParameterTypes();
        Object[] args = new Object[types.length];
        for (int k = 0; k < args.length; k++) {
            args[k] = types[k] == long.class ? (Object) (long) number() : (Object) number(method.getName(), k);
        }
        spent++;
        Object got = method.invoke(x, args);
        Object due = Model.class.getMethod(method.getName(), types).invoke(m, args);
        String what = method.getName() + Arrays.toString(args);
        Check.is(what + " answered " + got + ", due is " + due, got.equals(due));
        return (got.equals(due) ? "" : "!") + what + " = " + due;
    }

    private static int number() {
        int[] edges = {0, 1, 2, 3, 5, 8, 12, 15, 16, 17, 26, 27, 60, 61, -1, 255, 256, 1000, Integer.MAX_VALUE,
            Integer.MIN_VALUE};
        return random.nextInt(2) == 0 ? edges[random.nextInt(edges.length)] : random.nextInt(27);
    }

    private static int number(String name, int k) {
        String kinds = kinds(name);
        if (random.nextInt(14) == 0 || k >= kinds.length()) {
            return number();
        }
        switch (kinds.charAt(k)) {
            case 't':
                return random.nextInt(4);
            case 'j':
                return random.nextInt(8);
            case 's':
                return random.nextInt(6);
            case 'J':
                return random.nextInt(3) == 0 ? random.nextInt(256) : random.nextInt(128) & random.nextInt(256);
            case 'w':
                return random.nextInt(2);
            case 'd':
                return random.nextInt(25) == 0 ? random.nextInt(10100) - 50 : random.nextInt(9);
            case 'l':
                return random.nextInt(8) == 0 ? random.nextInt(1100) - 50 : random.nextInt(6);
            case 'r':
                return random.nextInt(10);
            case 'S':
                return random.nextInt(10050);
            case 'm':
                return random.nextBoolean() ? random.nextInt(27) : Texts.letter(".abenoz".charAt(random.nextInt(7)));
            default:
                return random.nextInt(7);
        }
    }

    /** What a call's arguments are: trays, jars, sets of jars, sounds, whats, days, long times .. */
    private static String kinds(String name) {
        switch (name) {
            case "tray": case "many": case "fault": case "jar": case "shop": case "law":
                return name.equals("jar") ? "j9" : name.equals("tray") ? "t" : "9";
            case "write": case "read":
                return "t9";
            case "pour":
                return "t9t99";
            case "day":
                return "d";
            case "loudest":
                return "lw";
            case "pourOut":
                return "jt";
            case "atOnce": case "clearest":
                return name.equals("atOnce") ? "jjt" : "jjw";
            case "couples":
                return "t9";
            case "mixes": case "others":
                return "mm";
            case "echoed":
                return "s9t";
            case "beside":
                return "t9s9";
            case "fits": case "kinds": case "merged":
                return "J";
            case "places": case "far":
                return "js";
            case "speaks": case "witness": case "letter":
                return "s9";
            case "fillFrom":
                return "jsl";
            case "keeps":
                return "jl";
            case "since":
                return "j9w";
            case "fewest": case "cheapest": case "pieced":
                return name.equals("pieced") ? "sw" : "slw";
            case "road":
                return "Sr";
            case "odds":
                return "srS9";
            case "safe":
                return "j9w";
            case "third": case "second":
                return "ttt9";
            case "mergedAt": case "chainAt": case "shelfAt": case "chain":
                return "9";
            default:
                return "jjj";
        }
    }

    // ---- texts

    private static String text(EchoJars x, Model m, boolean perhapsBad) {
        boolean isShop = random.nextInt(3) != 0 || m.many(1) == 0;
        List<String> tokens = isShop ? shopTokens(perhapsBad) : lawTokens();
        for (int k = perhapsBad && random.nextInt(2) == 0 ? 1 + random.nextInt(2) : 0; k > 0 && !tokens.isEmpty(); k--) {
            spoil(tokens);
        }
        String text = joined(tokens);
        text = text.substring(0, Math.min(text.length(), 880));
        if (x.many(3) != m.many(3)) {
            return "!many";
        }
        // what is on the tape yet would come ahead
        x.law(0);
        m.law(0);
        int padded = (text.length() + 19) / 20 * 20;
        spent += padded / 20 + 4;
        for (int at = 0; at < padded; at += 20) {
            int[] v = new int[5];
            for (int k = 0; k < 20; k++) {
                v[k / 4] = v[k / 4] << 8 | (at + k < text.length() ? text.charAt(at + k) & 255 : 32);
            }
            Check.same("feed", x.feed(v[0], v[1], v[2], v[3], v[4]), m.feed(v[0], v[1], v[2], v[3], v[4]));
        }
        int n = perhapsBad && random.nextInt(12) == 0 ? random.nextInt(padded + 2) : text.length();
        int got = isShop ? x.shop(n) : x.law(n);
        int due = isShop ? m.shop(n) : m.law(n);
        Check.same((isShop ? "shop " : "law ") + text, got, due);
        return (got == due ? "" : "!") + (isShop ? "shop " : "law ") + n + " " + text;
    }

    private static void spoil(List<String> tokens) {
        int at = random.nextInt(tokens.size());
        switch (random.nextInt(4)) {
            case 0:
                tokens.remove(at);
                break;
            case 1:
                tokens.add(at, POOL[random.nextInt(POOL.length)]);
                break;
            case 2:
                tokens.set(at, POOL[random.nextInt(POOL.length)]);
                break;
            default:
                tokens.set(at, tokens.get(random.nextInt(tokens.size())));
                break;
        }
    }

    private static String joined(List<String> tokens) {
        StringBuilder text = new StringBuilder();
        for (String token : tokens) {
            boolean words = text.length() > 0 && Character.isLetterOrDigit(text.charAt(text.length() - 1))
                    && Character.isLetterOrDigit(token.charAt(0));
            int blanks = words && random.nextInt(40) != 0 ? 1 : random.nextInt(6) == 0 ? 1 : 0;
            text.append(random.nextInt(5) == 0 ? "\n".repeat(blanks) : " ".repeat(blanks)).append(token);
        }
        return text.toString();
    }

    private static String letters(int most, int kinds) {
        StringBuilder row = new StringBuilder();
        for (int k = 1 + random.nextInt(most); k > 0; k--) {
            row.append("abenoz".charAt(random.nextInt(kinds)));
        }
        return row.toString();
    }

    private static List<String> shopTokens(boolean perhapsBad) {
        List<String> all = new ArrayList<>();
        int sounds = perhapsBad && random.nextInt(20) == 0 ? 9 : random.nextInt(4) == 0 ? random.nextInt(9) : 3 + random.nextInt(6);
        int jars = perhapsBad && random.nextInt(20) == 0 ? 9 : random.nextInt(4) == 0 ? random.nextInt(9) : 4 + random.nextInt(5);
        int kinds = 1 + random.nextInt(6);
        List<Integer> sizes = new ArrayList<>();
        for (int k = 0; k < sounds; k++) {
            String row = letters(random.nextInt(3) == 0 ? 16 : 7, kinds);
            sizes.add(row.length());
            all.addAll(Arrays.asList("sound", "s" + (char) ('a' + k), row, ";"));
        }
        for (int k = 0; k < jars; k++) {
            jarTokens(all, k);
            if (sounds > 0 && random.nextInt(6) != 0) {
                int sound = random.nextInt(sounds);
                int from = random.nextInt(Math.min(sizes.get(sound), 1 + random.nextInt(16)));
                int day = random.nextInt(8) == 0 ? random.nextInt(1000) : Math.max(0, random.nextInt(5) - 2);
                all.addAll(Arrays.asList("fill", "j" + (char) ('a' + k), "of", "s" + (char) ('a' + sound), "from",
                        "" + from, "on", "" + day, ";"));
            }
        }
        return all;
    }

    private static void jarTokens(List<String> all, int k) {
        int leaks = random.nextInt(4) == 0 ? random.nextInt(100) : random.nextInt(8);
        all.addAll(Arrays.asList("jar", "j" + (char) ('a' + k), "size", "" + (1 + random.nextInt(12)), "leaks",
                "" + leaks));
        for (String perhaps : new String[] {"head", "tail", "costs", "worth", "breaks"}) {
            if (random.nextInt(3) == 0) {
                all.add(perhaps);
                if (perhaps.length() > 4) {
                    all.add("" + random.nextInt(perhaps.equals("breaks") ? 16 : random.nextInt(3) == 0 ? 100 : 4));
                }
            }
        }
        all.add(";");
    }

    private static List<String> lawTokens() {
        List<String> all = new ArrayList<>();
        for (int k = random.nextInt(12) == 0 ? 13 : random.nextInt(10); k > 0; k--) {
            all.addAll(Arrays.asList("mix", kind("any"), "with", kind("any"), "gives",
                    kind(random.nextBoolean() ? "first" : "second"), ";"));
        }
        return all;
    }

    private static String kind(String other) {
        int which = random.nextInt(5);
        return which == 0 ? other : which == 1 ? "rest" : letters(1, 6);
    }
}
