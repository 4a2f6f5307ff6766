import java.util.ArrayDeque;
import java.util.ArrayList;
import java.util.Arrays;
import java.util.HashMap;
import java.util.HashSet;
import java.util.List;
import java.util.Map;
import java.util.Set;
import java.util.regex.Matcher;
import java.util.regex.Pattern;

/**
 * The document once more, as slowly and as plainly as can be, over texts and the Java library: rows are Strings,
 * days are gone through one by one, orders and sets are all tried. RandomRunsTest compares its answers.
 */
public final class Model {
    private static final class Fault extends RuntimeException {
        private static final long serialVersionUID = 1;
        final int kind;
        final int place;

        Fault(int kind, int place) {
            this.kind = kind;
            this.place = place;
        }
    }

    private static final class Token {
        String text = "";
        int place;

        boolean word() {
            return !text.isEmpty() && text.matches("[a-z]+");
        }

        boolean number() {
            return text.matches("[0-9]+");
        }
    }

    private static final class Jar {
        String name = "";
        int size;
        int leaks;
        int way = 2;
        int costs;
        int worth = 1;
        int breaks;
        String filled = "";
        int on;
        int sound;
        List<String> days;

        /** What is heard, gone through day by day; what is behind the list's end is as its last. */
        String on(int day) {
            if (filled.isEmpty() || day < on) {
                return "";
            }
            if (days == null) {
                days = new ArrayList<>();
                String left = filled;
                boolean head = true;
                days.add(left);
                for (int d = 1; d <= 1300; d++) {
                    if (leaks > 0 && d % leaks == 0 && !left.isEmpty()) {
                        boolean fromHead = way == 0 || way == 2 && head;
                        left = fromHead ? left.substring(1) : left.substring(0, left.length() - 1);
                        head = !head;
                    }
                    days.add(left);
                }
            }
            return days.get(Math.min(day - on, 1300));
        }
    }

    private static final class Shop {
        final List<String> soundNames = new ArrayList<>();
        final List<String> sounds = new ArrayList<>();
        final List<Jar> jars = new ArrayList<>();
    }

    private static final Set<String> KEPT = new HashSet<>(Arrays.asList("sound", "jar", "size", "leaks", "head",
            "tail", "costs", "worth", "breaks", "fill", "of", "from", "on", "mix", "with", "gives", "any", "same",
            "rest", "first", "second"));

    private int status;
    private long top;
    private long bottom = 1;
    private final long[][] trays = new long[4][];
    private final int[] sorts = new int[4];
    private String tape = "";
    private int faultKind = -1;
    private int faultPlace = -1;
    private Shop shop = new Shop();
    private List<String[]> law = new ArrayList<>();
    private int today;
    private Map<Integer, Integer> broke = new HashMap<>();
    private final ArrayDeque<Object[]> marks = new ArrayDeque<>();
    private String mergedRow = "";
    private List<Integer> chainRow = new ArrayList<>();
    private List<Integer> shelfRow = new ArrayList<>();

    // ---- texts, token by token

    private String text;
    private int at;
    private Token token;

    private void next() {
        Matcher m = Pattern.compile("[ \n]*(?:([a-z]+)|([0-9]+)|(;)|(.))?", Pattern.DOTALL).matcher(text);
        m.region(at, text.length());
        m.lookingAt();
        token = new Token();
        for (int group = 1; group <= 4; group++) {
            if (m.group(group) != null) {
                token.text = m.group(group);
            }
        }
        at = m.end();
        token.place = at - token.text.length();
    }

    private Fault bad(int kind) {
        boolean strange = !token.text.isEmpty() && !token.text.matches("[a-z]+|[0-9]{1,4}|;");
        return new Fault(strange ? 1 : kind, token.place);
    }

    private void expect(String what) {
        if (!token.text.equals(what)) {
            throw bad(2);
        }
        next();
    }

    private boolean perhaps(String what) {
        boolean there = token.text.equals(what);
        if (there) {
            next();
        }
        return there;
    }

    private int number(int least, int most) {
        if (!token.number() || token.text.length() > 4) {
            throw bad(2);
        }
        int v = Integer.parseInt(token.text);
        if (v < least || v > most) {
            throw bad(4);
        }
        next();
        return v;
    }

    private String name() {
        if (!token.word() || token.text.length() > 8 || KEPT.contains(token.text)) {
            throw bad(2);
        }
        return token.text;
    }

    private String newName(Shop s) {
        String name = name();
        boolean taken = s.soundNames.contains(name);
        for (Jar j : s.jars) {
            taken |= j.name.equals(name);
        }
        if (taken) {
            throw bad(3);
        }
        next();
        return name;
    }

    private Shop parseShop() {
        Shop s = new Shop();
        next();
        while (!token.text.isEmpty()) {
            if (token.text.equals("sound")) {
                if (s.sounds.size() == 8) {
                    throw bad(6);
                }
                next();
                String name = newName(s);
                if (!token.word() || token.text.length() > 16) {
                    throw bad(2);
                }
                s.soundNames.add(name);
                s.sounds.add(token.text);
                next();
            } else if (token.text.equals("jar")) {
                if (s.jars.size() == 8) {
                    throw bad(6);
                }
                next();
                s.jars.add(parseJar(newName(s)));
            } else if (token.text.equals("fill")) {
                next();
                parseFill(s);
            } else {
                throw bad(2);
            }
            expect(";");
        }
        return s;
    }

    private Jar parseJar(String name) {
        Jar j = new Jar();
        j.name = name;
        expect("size");
        j.size = number(1, 12);
        expect("leaks");
        j.leaks = number(0, 99);
        boolean head = perhaps("head");
        boolean tail = perhaps("tail");
        j.way = head && !tail ? 0 : tail && !head ? 1 : 2;
        if (perhaps("costs")) {
            j.costs = number(0, 99);
        }
        if (perhaps("worth")) {
            j.worth = number(0, 99);
        }
        if (perhaps("breaks")) {
            j.breaks = number(0, 15);
        }
        return j;
    }

    private void parseFill(Shop s) {
        String name = name();
        Jar jar = null;
        for (Jar j : s.jars) {
            if (j.name.equals(name)) {
                jar = j;
            }
        }
        if (jar == null) {
            throw bad(3);
        }
        if (!jar.filled.isEmpty()) {
            throw bad(5);
        }
        next();
        expect("of");
        int sound = s.soundNames.indexOf(name());
        if (sound < 0) {
            throw bad(3);
        }
        next();
        expect("from");
        int from = number(0, s.sounds.get(sound).length() - 1);
        expect("on");
        int on = number(0, 999);
        String rest = s.sounds.get(sound).substring(from);
        jar.filled = rest.length() > jar.size ? rest.substring(0, jar.size) : rest;
        jar.on = on;
        jar.sound = sound;
    }

    private List<String[]> parseLaw() {
        List<String[]> found = new ArrayList<>();
        next();
        while (!token.text.isEmpty()) {
            if (found.size() == 12 && token.text.equals("mix")) {
                throw bad(6);
            }
            String[] rule = new String[3];
            String[] ahead = {"mix", "with", "gives"};
            for (int k = 0; k < 3; k++) {
                expect(ahead[k]);
                String more = k < 2 ? "any|rest" : "first|second|rest";
                if (!token.text.matches("[a-z]|" + more)) {
                    throw bad(2);
                }
                rule[k] = token.text;
                next();
            }
            expect(";");
            found.add(rule);
        }
        return found;
    }

    // ---- how calls end

    private long end(int s, long v) {
        status = s;
        return s == 0 ? v : -1;
    }

    private int ended(int s, long v) {
        return (int) end(s, v);
    }

    private boolean okay(int s) {
        status = s;
        return s == 0;
    }

    private boolean noJar(int j) {
        return j < 0 || j >= shop.jars.size();
    }

    private boolean noSound(int s) {
        return s < 0 || s >= shop.sounds.size();
    }

    private boolean noSet(int set) {
        return set < 0 || set >= 1 << shop.jars.size();
    }

    private static boolean noTray(int t) {
        return t < 0 || t > 3;
    }

    private static boolean out(long v, long a, long b) {
        return v < a || v > b;
    }

    private String h(int jar) {
        return shop.jars.get(jar).on(today);
    }

    private int bring(String row, int tray) {
        if (trays[tray] == null) {
            return ended(3, 0);
        }
        if (trays[tray].length < row.length()) {
            return ended(4, 0);
        }
        for (int k = 0; k < row.length(); k++) {
            trays[tray][k] = code(row.charAt(k));
        }
        return ended(0, row.length());
    }

    private static int code(char c) {
        return c == '.' ? 0 : c - 'a' + 1;
    }

    private static char sign(int v) {
        return v == 0 ? '.' : (char) ('a' + v - 1);
    }

    private static char charOf(String row, int k) {
        return k < 0 || k >= row.length() ? '.' : row.charAt(k);
    }

    private char mixed(char a, char b) {
        for (String[] rule : law) {
            if (fits(rule[0], a) && fits(rule[1], b)) {
                switch (rule[2]) {
                    case "first":
                        return a;
                    case "second":
                        return b;
                    case "rest":
                        return '.';
                    default:
                        return rule[2].charAt(0);
                }
            }
        }
        if (a == b) {
            return a;
        }
        if (a == '.') {
            return b;
        }
        return b == '.' ? a : '.';
    }

    private static boolean fits(String kind, char c) {
        return kind.equals("any") || kind.equals("rest") && c == '.' || kind.equals("" + c);
    }

    private String mixed(String a, String b, int later) {
        String second = ".".repeat(later) + b;
        StringBuilder row = new StringBuilder();
        for (int k = 0; k < Math.max(a.length(), second.length()); k++) {
            row.append(mixed(charOf(a, k), charOf(second, k)));
        }
        return row.toString();
    }

    private static int count(String part, String whole) {
        int times = 0;
        for (int k = 0; !part.isEmpty() && k < whole.length(); k++) {
            if (whole.startsWith(part, k)) {
                times++;
            }
        }
        return times;
    }

    private void tell(long a, long b) {
        long d = java.math.BigInteger.valueOf(a).gcd(java.math.BigInteger.valueOf(b)).longValue();
        top = a / d;
        bottom = b / d;
    }

    // ---- the face

    public int status() {
        return status;
    }

    public long top() {
        return top;
    }

    public long bottom() {
        return bottom;
    }

    public boolean tray(int tray, int sort, int many) {
        int s = noTray(tray) || sort < 0 || sort > 3 ? 1 : many > 60 ? 5 : many < 0 ? 6 : 0;
        if (s == 0) {
            trays[tray] = new long[many];
            sorts[tray] = sort;
        }
        return okay(s);
    }

    private int place(int tray, int place) {
        return noTray(tray) ? 1 : trays[tray] == null ? 3 : out(place, 0, trays[tray].length - 1) ? 4 : 0;
    }

    public boolean write(int tray, int place, long v) {
        int s = place(tray, place);
        if (s == 0) {
            int gone = 64 - (8 << sorts[tray]);
            trays[tray][place] = v << gone >> gone;
        }
        return okay(s);
    }

    public long read(int tray, int place) {
        int s = place(tray, place);
        return end(s, s == 0 ? trays[tray][place] : 0);
    }

    public boolean pour(int tray, int i, int to, int j, int many) {
        if (noTray(tray) || noTray(to)) {
            return okay(1);
        }
        if (trays[tray] == null || trays[to] == null) {
            return okay(3);
        }
        if (sorts[tray] != sorts[to]) {
            return okay(11);
        }
        if (many < 0) {
            return okay(6);
        }
        if (i < 0 || j < 0 || (long) i + many > trays[tray].length || (long) j + many > trays[to].length) {
            return okay(4);
        }
        long[] old = trays[tray].clone();
        for (int k = 0; k < many; k++) {
            trays[to][j + k] = old[i + k];
        }
        return okay(0);
    }

    public int feed(int a, int b, int c, int d, int e) {
        if (tape.length() + 20 > 900) {
            return -1;
        }
        StringBuilder more = new StringBuilder(tape);
        for (int v : new int[] {a, b, c, d, e}) {
            more.append((char) (v >>> 24)).append((char) (v >> 16 & 255)).append((char) (v >> 8 & 255))
                    .append((char) (v & 255));
        }
        tape = more.toString();
        return tape.length();
    }

    private void open(int n) {
        text = tape.substring(0, n);
        tape = "";
        at = 0;
        faultKind = 0;
        faultPlace = -1;
    }

    private int faulty(Fault f) {
        faultKind = f.kind;
        faultPlace = f.place;
        return ended(10, 0);
    }

    public int shop(int n) {
        if (out(n, 0, tape.length())) {
            return ended(5, 0);
        }
        open(n);
        try {
            shop = parseShop();
        } catch (Fault f) {
            return faulty(f);
        }
        law = new ArrayList<>();
        today = 0;
        broke = new HashMap<>();
        return ended(0, shop.jars.size());
    }

    public int law(int n) {
        if (out(n, 0, tape.length()) || n > 300) {
            return ended(5, 0);
        }
        open(n);
        try {
            law = parseLaw();
        } catch (Fault f) {
            return faulty(f);
        }
        return ended(0, law.size());
    }

    public int fault(int what) {
        return what == 0 ? faultKind : what == 1 ? faultPlace : -1;
    }

    public int many(int what) {
        int empty = 0;
        for (Jar j : shop.jars) {
            empty += j.filled.isEmpty() ? 1 : 0;
        }
        int[] all = {shop.sounds.size(), shop.jars.size(), law.size(), today, empty};
        return out(what, 0, 4) ? ended(5, 0) : ended(0, all[what]);
    }

    private int told(String row, int k) {
        return out(k, 0, row.length() - 1) ? ended(8, 0) : ended(0, code(row.charAt(k)));
    }

    public int letter(int sound, int k) {
        return noSound(sound) ? ended(2, 0) : told(shop.sounds.get(sound), k);
    }

    public int jar(int jar, int what) {
        if (noJar(jar)) {
            return ended(2, 0);
        }
        Jar j = shop.jars.get(jar);
        int[] all = {j.size, j.leaks, j.way, j.costs, j.worth, j.breaks, j.filled.length(), j.on, j.sound};
        return out(what, 0, 8) ? ended(5, 0) : what > 6 && j.filled.isEmpty() ? ended(8, 0) : ended(0, all[what]);
    }

    public boolean day(int day) {
        if (out(day, 0, 9999)) {
            return okay(5);
        }
        today = day;
        return okay(0);
    }

    public int heard(int jar) {
        return noJar(jar) ? ended(2, 0) : ended(0, h(jar).length());
    }

    public int heardAt(int jar, int k) {
        return noJar(jar) ? ended(2, 0) : told(h(jar), k);
    }

    public int pourOut(int jar, int tray) {
        return noTray(tray) ? ended(1, 0) : noJar(jar) ? ended(2, 0) : bring(h(jar), tray);
    }

    public int lost(int jar) {
        if (noJar(jar)) {
            return ended(2, 0);
        }
        Jar j = shop.jars.get(jar);
        return ended(0, today < j.on ? 0 : j.filled.length() - h(jar).length());
    }

    public int silent(int jar) {
        if (noJar(jar)) {
            return ended(2, 0);
        }
        Jar j = shop.jars.get(jar);
        for (int d = j.on; d < j.on + 1300 && !j.filled.isEmpty(); d++) {
            if (j.on(d).isEmpty()) {
                return ended(0, d);
            }
        }
        return ended(8, 0);
    }

    public int loudest(int days, int what) {
        if (out(days, 0, 999) || out(what, 0, 1)) {
            return ended(5, 0);
        }
        int best = -1;
        int most = -1;
        for (int d = today; d <= today + days; d++) {
            int sum = 0;
            for (Jar j : shop.jars) {
                sum += j.on(d).length();
            }
            if (sum > most) {
                most = sum;
                best = d;
            }
        }
        return ended(0, what == 0 ? best : most);
    }

    public int atOnce(int a, int b, int tray) {
        return noTray(tray) ? ended(1, 0) : noJar(a) || noJar(b) ? ended(2, 0) : bring(mixed(h(a), h(b), 0), tray);
    }

    private int rowStatus(int tray, int many, int most, int least) {
        if (many > trays[tray].length) {
            return 4;
        }
        if (out(many, 1, most)) {
            return 5;
        }
        for (int k = 0; k < many; k++) {
            if (out(trays[tray][k], least, 26)) {
                return 5;
            }
        }
        return 0;
    }

    public long couples(int tray, int many) {
        int s = noTray(tray) ? 1 : trays[tray] == null ? 3 : rowStatus(tray, many, 6, 0);
        long all = 1;
        for (int k = 0; s == 0 && k < many; k++) {
            int ways = 0;
            for (char a = 'a'; a <= 'z'; a++) {
                for (char b = 'a'; b <= 'z'; b++) {
                    ways += code(mixed(a, b)) == trays[tray][k] ? 1 : 0;
                }
            }
            all *= ways;
        }
        return end(s, all);
    }

    public int mixes(int a, int b) {
        return out(a, 0, 26) || out(b, 0, 26) ? ended(5, 0) : ended(0, code(mixed(sign(a), sign(b))));
    }

    public int others(int a, int gives) {
        if (out(a, 0, 26) || out(gives, 0, 26)) {
            return ended(5, 0);
        }
        int set = 0;
        for (int b = 0; b <= 26; b++) {
            set |= code(mixed(sign(a), sign(b))) == gives ? 1 << b : 0;
        }
        return ended(0, set);
    }

    public int echoed(int sound, int later, int tray) {
        if (noTray(tray)) {
            return ended(1, 0);
        }
        if (noSound(sound)) {
            return ended(2, 0);
        }
        String row = shop.sounds.get(sound);
        return out(later, 0, 15) ? ended(5, 0) : bring(mixed(row, row, later), tray);
    }

    public int clearest(int a, int b, int what) {
        if (noJar(a) || noJar(b)) {
            return ended(2, 0);
        }
        if (out(what, 0, 1)) {
            return ended(5, 0);
        }
        int best = -1;
        int most = -1;
        for (int later = 0; later <= 12; later++) {
            int letters = mixed(h(a), h(b), later).replace(".", "").length();
            if (letters > most) {
                most = letters;
                best = later;
            }
        }
        return ended(0, what == 0 ? best : most);
    }

    public long beside(int tray, int many, int sound, int from) {
        int s = noTray(tray) ? 1 : noSound(sound) ? 2 : trays[tray] == null ? 3 : rowStatus(tray, many, 8, 0);
        if (s == 0 && out(from, 0, 15)) {
            s = 5;
        }
        long all = 1;
        for (int k = 0; s == 0 && k < many; k++) {
            int ways = 0;
            for (int b = 0; b <= 26; b++) {
                ways += code(mixed(charOf(shop.sounds.get(sound), from + k), sign(b))) == trays[tray][k] ? 1 : 0;
            }
            all *= ways;
        }
        return end(s, all);
    }

    private int fitSet(int jars) {
        int set = 0;
        for (int s = 0; s < shop.sounds.size(); s++) {
            boolean all = true;
            for (int j = 0; j < shop.jars.size(); j++) {
                all &= (jars >> j & 1) == 0 || shop.sounds.get(s).contains(h(j));
            }
            set |= all ? 1 << s : 0;
        }
        return set;
    }

    public int fits(int jars) {
        return noSet(jars) ? ended(2, 0) : ended(0, fitSet(jars));
    }

    public int places(int jar, int sound) {
        return noJar(jar) || noSound(sound) ? ended(2, 0) : ended(0, count(h(jar), shop.sounds.get(sound)));
    }

    private int speakSet(int sound) {
        int set = 0;
        for (int j = 0; j < shop.jars.size(); j++) {
            set |= !h(j).isEmpty() && shop.sounds.get(sound).contains(h(j)) ? 1 << j : 0;
        }
        return set;
    }

    public int speaks(int sound) {
        return noSound(sound) ? ended(2, 0) : ended(0, speakSet(sound));
    }

    public int kinds(int jars) {
        Set<Character> all = new HashSet<>();
        for (int j = 0; j < shop.jars.size(); j++) {
            for (char c : h(j).toCharArray()) {
                if ((jars >> j & 1) != 0) {
                    all.add(c);
                }
            }
        }
        return noSet(jars) ? ended(2, 0) : ended(0, all.size());
    }

    private static int lap(String a, String b) {
        int best = 0;
        for (int k = 1; k < a.length() && k < b.length(); k++) {
            if (a.endsWith(b.substring(0, k))) {
                best = k;
            }
        }
        return best;
    }

    public int laps(int a, int b) {
        return noJar(a) || noJar(b) ? ended(2, 0) : ended(0, lap(h(a), h(b)));
    }

    public int merged(int jars) {
        if (noSet(jars)) {
            return ended(2, 0);
        }
        if (Integer.bitCount(jars) > 6) {
            return ended(5, 0);
        }
        List<String> rows = new ArrayList<>();
        for (int j = 0; j < shop.jars.size(); j++) {
            if ((jars >> j & 1) != 0 && !h(j).isEmpty()) {
                rows.add(h(j));
            }
        }
        mergedRow = shortest(rows);
        return ended(0, mergedRow.length());
    }

    /**
     * Rows letter by letter, shorter ones first and among these by the alphabet; of rows that end alike and have the
     * same parts in them only the first goes on. The first that has all is what is looked for.
     */
    private static String shortest(List<String> rows) {
        List<String> now = new ArrayList<>();
        now.add("");
        Set<String> seen = new HashSet<>();
        for (int length = 0; length <= 72; length++) {
            List<String> longer = new ArrayList<>();
            for (String row : now) {
                if (partsIn(rows, row) == (1 << rows.size()) - 1) {
                    return row;
                }
                for (char c = 'a'; c <= 'z'; c++) {
                    String more = row + c;
                    if (seen.add(openEnd(rows, more) + " " + partsIn(rows, more))) {
                        longer.add(more);
                    }
                }
            }
            now = longer;
        }
        throw new IllegalStateException("no row was found");
    }

    private static int partsIn(List<String> rows, String row) {
        int set = 0;
        for (int k = 0; k < rows.size(); k++) {
            set |= row.contains(rows.get(k)) ? 1 << k : 0;
        }
        return set;
    }

    private static String openEnd(List<String> rows, String row) {
        for (int k = Math.max(0, row.length() - 12); k < row.length(); k++) {
            for (String part : rows) {
                if (part.startsWith(row.substring(k))) {
                    return row.substring(k);
                }
            }
        }
        return "";
    }

    public int mergedAt(int k) {
        return told(mergedRow, k);
    }

    public int since(int jar, int letters, int what) {
        if (noJar(jar)) {
            return ended(2, 0);
        }
        if (out(letters, 0, 12) || out(what, 0, 1)) {
            return ended(5, 0);
        }
        Jar j = shop.jars.get(jar);
        int first = -1;
        int last = -1;
        for (int d = j.on; d <= j.on + 1300 && !j.filled.isEmpty(); d++) {
            if (j.on(d).length() == letters) {
                first = first < 0 ? d : first;
                last = d == j.on + 1300 ? -1 : d;
            }
        }
        int v = what == 0 ? first : last;
        return v < 0 ? ended(8, 0) : ended(0, v);
    }

    private static int edits(String a, String b, Map<String, Integer> known) {
        if (a.isEmpty() || b.isEmpty()) {
            return a.length() + b.length();
        }
        String key = a + " " + b;
        if (!known.containsKey(key)) {
            int cost = a.charAt(0) == b.charAt(0) ? 0 : 1;
            int best = cost + edits(a.substring(1), b.substring(1), known);
            best = Math.min(best, 1 + edits(a.substring(1), b, known));
            best = Math.min(best, 1 + edits(a, b.substring(1), known));
            known.put(key, best);
        }
        return known.get(key);
    }

    public int far(int jar, int sound) {
        return noJar(jar) || noSound(sound) ? ended(2, 0)
                : ended(0, edits(h(jar), shop.sounds.get(sound), new HashMap<>()));
    }

    public int common(int a, int b) {
        if (noJar(a) || noJar(b)) {
            return ended(2, 0);
        }
        int best = 0;
        for (int i = 0; i <= h(a).length(); i++) {
            for (int k = i; k <= h(a).length(); k++) {
                best = h(b).contains(h(a).substring(i, k)) ? Math.max(best, k - i) : best;
            }
        }
        return ended(0, best);
    }

    private void chains(List<Integer> now, boolean[][] linked, List<Integer> best) {
        if (now.size() > best.size()) {
            best.clear();
            best.addAll(now);
        }
        for (int j = 0; j < linked.length; j++) {
            if (!now.contains(j) && (now.isEmpty() || linked[now.get(now.size() - 1)][j])) {
                now.add(j);
                chains(now, linked, best);
                now.remove(now.size() - 1);
            }
        }
    }

    public int chain(int n) {
        if (out(n, 1, 11)) {
            return ended(5, 0);
        }
        int jars = shop.jars.size();
        if (jars == 0) {
            return ended(8, 0);
        }
        boolean[][] linked = new boolean[jars][jars];
        for (int a = 0; a < jars; a++) {
            for (int b = 0; b < jars; b++) {
                linked[a][b] = lap(h(a), h(b)) >= n;
            }
        }
        chainRow = new ArrayList<>();
        chains(new ArrayList<>(), linked, chainRow);
        return ended(0, chainRow.size());
    }

    private int listed(List<Integer> row, int k) {
        return out(k, 0, row.size() - 1) ? ended(8, 0) : ended(0, row.get(k));
    }

    public int chainAt(int k) {
        return listed(chainRow, k);
    }

    public int witness(int sound) {
        if (noSound(sound)) {
            return ended(2, 0);
        }
        for (int many = 0; many <= 8; many++) {
            for (int set = 0; set < 1 << shop.jars.size(); set++) {
                if (Integer.bitCount(set) == many && fitSet(set) == 1 << sound) {
                    return ended(0, set);
                }
            }
        }
        return ended(8, 0);
    }

    public int fillFrom(int jar, int sound, int days) {
        if (noJar(jar) || noSound(sound)) {
            return ended(2, 0);
        }
        if (out(days, 0, 999)) {
            return ended(5, 0);
        }
        Jar like = shop.jars.get(jar);
        int best = -1;
        int least = Integer.MAX_VALUE;
        for (int from = 0; from < shop.sounds.get(sound).length(); from++) {
            Jar j = new Jar();
            j.size = like.size;
            j.leaks = like.leaks;
            j.way = like.way;
            String rest = shop.sounds.get(sound).substring(from);
            j.filled = rest.substring(0, Math.min(j.size, rest.length()));
            String left = j.on(days);
            int times = 0;
            for (String s : shop.sounds) {
                times += count(left, s);
            }
            if (!left.isEmpty() && times < least) {
                least = times;
                best = from;
            }
        }
        return best < 0 ? ended(8, 0) : ended(0, best);
    }

    private int kept(int jar, int days) {
        Jar j = shop.jars.get(jar);
        int left = j.size;
        for (int d = 1; d <= days; d++) {
            left -= j.leaks > 0 && d % j.leaks == 0 ? 1 : 0;
        }
        return Math.max(left, 0);
    }

    public int keeps(int jar, int days) {
        return noJar(jar) ? ended(2, 0) : out(days, 0, 999) ? ended(5, 0) : ended(0, kept(jar, days));
    }

    private int[] cheap(int sound, int days, boolean byCount) {
        int[] kept = new int[shop.jars.size()];
        for (int j = 0; j < kept.length; j++) {
            kept[j] = kept(j, days);
        }
        int[] best = null;
        for (int set = 0; set < 1 << kept.length; set++) {
            int room = 0;
            int cost = 0;
            for (int j = 0; j < kept.length; j++) {
                if ((set >> j & 1) != 0) {
                    room += kept[j];
                    cost += byCount ? 1 : shop.jars.get(j).costs;
                }
            }
            if (room >= shop.sounds.get(sound).length() && (best == null || cost < best[0])) {
                best = new int[] {cost, set};
            }
        }
        return best;
    }

    public int fewest(int sound, int days) {
        if (noSound(sound)) {
            return ended(2, 0);
        }
        if (out(days, 0, 999)) {
            return ended(5, 0);
        }
        int[] best = cheap(sound, days, true);
        return best == null ? ended(9, 0) : ended(0, best[0]);
    }

    public int cheapest(int sound, int days, int what) {
        if (noSound(sound)) {
            return ended(2, 0);
        }
        if (out(days, 0, 999) || out(what, 0, 1)) {
            return ended(5, 0);
        }
        int[] best = cheap(sound, days, false);
        return best == null ? ended(9, 0) : ended(0, best[what]);
    }

    private int shelfBest;

    private void shelves(List<Integer> now, int sum, List<Integer> filled) {
        if (now.size() == filled.size() && sum > shelfBest) {
            shelfBest = sum;
            shelfRow = new ArrayList<>(now);
        }
        for (int j : filled) {
            if (!now.contains(j)) {
                Jar jar = shop.jars.get(j);
                int more = jar.worth * jar.on(today + now.size()).length();
                now.add(j);
                shelves(now, sum + more, filled);
                now.remove(now.size() - 1);
            }
        }
    }

    public int shelf() {
        List<Integer> filled = new ArrayList<>();
        for (int j = 0; j < shop.jars.size(); j++) {
            if (!shop.jars.get(j).filled.isEmpty()) {
                filled.add(j);
            }
        }
        if (filled.isEmpty()) {
            return ended(8, 0);
        }
        shelfBest = -1;
        shelves(new ArrayList<>(), 0, filled);
        return ended(0, shelfBest);
    }

    public int shelfAt(int k) {
        return listed(shelfRow, k);
    }

    private int pieces(String row, char before, int what, Map<String, Integer> known) {
        if (row.isEmpty()) {
            return 0;
        }
        String key = row;
        if (known.containsKey(key)) {
            return known.get(key);
        }
        boolean alike = before != '.' && "aeiou".indexOf(before) >= 0 == "aeiou".indexOf(row.charAt(0)) >= 0;
        int cost = what == 0 || alike ? 1 : 0;
        int best = 1000;
        for (int k = 1; k <= row.length(); k++) {
            boolean there = false;
            for (int j = 0; j < shop.jars.size(); j++) {
                there |= h(j).contains(row.substring(0, k));
            }
            if (there) {
                best = Math.min(best, cost + pieces(row.substring(k), row.charAt(k - 1), what, known));
            }
        }
        known.put(key, best);
        return best;
    }

    public int pieced(int sound, int what) {
        if (noSound(sound)) {
            return ended(2, 0);
        }
        if (out(what, 0, 1)) {
            return ended(5, 0);
        }
        int best = pieces(shop.sounds.get(sound), '.', what, new HashMap<>());
        return best >= 1000 ? ended(9, 0) : ended(0, best);
    }

    private Map<Integer, Integer> go(int seed, int days) {
        Map<Integer, Integer> broken = new HashMap<>();
        long s = seed;
        for (int d = 1; d <= days; d++) {
            for (int j = 0; j < shop.jars.size(); j++) {
                if (!broken.containsKey(j)) {
                    s = (s * 2683L + 9419L) % 65536L;
                    if (s / 8 % 16 < shop.jars.get(j).breaks) {
                        broken.put(j, d);
                    }
                }
            }
        }
        return broken;
    }

    public int road(int seed, int days) {
        if (out(seed, 0, 9999) || out(days, 1, 30)) {
            return ended(5, 0);
        }
        broke = go(seed, days);
        int set = 0;
        for (int j = 0; j < shop.jars.size(); j++) {
            set |= broke.containsKey(j) ? 0 : 1 << j;
        }
        return ended(0, set);
    }

    public int brokeOn(int jar) {
        return noJar(jar) ? ended(2, 0) : broke.containsKey(jar) ? ended(0, broke.get(jar)) : ended(8, 0);
    }

    public boolean odds(int sound, int days, int seed, int many) {
        if (noSound(sound)) {
            return okay(2);
        }
        if (out(days, 1, 30) || out(seed, 0, 9999) || out(many, 1, 20) || seed + many - 1 > 9999) {
            return okay(5);
        }
        int good = 0;
        for (int k = 0; k < many; k++) {
            int left = speakSet(sound);
            for (int j : go(seed + k, days).keySet()) {
                left &= ~(1 << j);
            }
            good += left != 0 ? 1 : 0;
        }
        tell(good, many);
        return okay(0);
    }

    public boolean safe(int jar, int days, int what) {
        if (noJar(jar)) {
            return okay(2);
        }
        if (out(days, 1, 5) || out(what, 0, 1)) {
            return okay(5);
        }
        long all = 1L << 4 * days;
        long whole = 1;
        for (int k = 0; k < days; k++) {
            whole *= 16 - shop.jars.get(jar).breaks;
        }
        // both are whole, or either alone
        tell(what == 0 ? whole : whole * whole + 2 * whole * (all - whole), what == 0 ? all : all * all);
        return okay(0);
    }

    private boolean three(int a, int b, int to, int many, boolean back) {
        if (noTray(a) || noTray(b) || noTray(to)) {
            return okay(1);
        }
        if (trays[a] == null || trays[b] == null || trays[to] == null) {
            return okay(3);
        }
        if (many > trays[a].length || many > trays[b].length || many > trays[to].length) {
            return okay(4);
        }
        int s = Math.max(rowStatus(a, many, 16, 1), rowStatus(b, many, 16, 1));
        if (s != 0) {
            return okay(s);
        }
        for (int k = 0; k < many; k++) {
            long first = trays[a][k] - 1;
            long other = trays[b][k] - 1;
            trays[to][k] = Math.floorMod(back ? other - first : first + other, 26L) + 1;
        }
        return okay(0);
    }

    public boolean third(int a, int b, int to, int many) {
        return three(a, b, to, many, false);
    }

    public boolean second(int a, int third, int to, int many) {
        return three(a, third, to, many, true);
    }

    public int anyTwo(int a, int b, int c) {
        if (noJar(a) || noJar(b) || noJar(c)) {
            return ended(2, 0);
        }
        String x = h(a);
        String y = h(b);
        String z = h(c);
        boolean good = !x.isEmpty() && x.length() == y.length() && y.length() == z.length();
        for (int k = 0; good && k < x.length(); k++) {
            good = (x.charAt(k) - 'a' + y.charAt(k) - 'a') % 26 == z.charAt(k) - 'a';
        }
        return ended(0, good ? 1 : 0);
    }

    public int mark() {
        if (marks.size() == 3) {
            return ended(7, 0);
        }
        marks.push(new Object[] {shop, new ArrayList<>(law), today});
        return ended(0, marks.size());
    }

    @SuppressWarnings("unchecked")
    public int back() {
        if (marks.isEmpty()) {
            return ended(8, 0);
        }
        Object[] kept = marks.pop();
        shop = (Shop) kept[0];
        law = (List<String[]>) kept[1];
        today = (Integer) kept[2];
        return ended(0, marks.size());
    }
}
