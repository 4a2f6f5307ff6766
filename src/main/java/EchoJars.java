/** A shop of jars in which echoes are kept; the numbered promises stand in DOC.md. */
public final class EchoJars {
    public static final int NONE = -1;

    private static final int FINE = 0;
    private static final int NO_TRAY = 1;
    private static final int NO_THING = 2;
    private static final int IS_MISSING = 3;
    private static final int NO_PLACE = 4;
    private static final int BAD_NUMBER = 5;
    private static final int BELOW_ZERO = 6;
    private static final int ONE_TOO_MANY = 7;
    private static final int NO_SUCH = 8;
    private static final int CANNOT_BE = 9;
    private static final int HAS_FAULT = 10;
    private static final int UNLIKE_SORTS = 11;

    private static final int TRAYS = 4;
    private static final int TRAY_ROOM = 60;
    private static final int THINGS = 8;
    private static final int TAPE_ROOM = 900;
    private static final int LAW_ROOM = 300;
    private static final int RULES = 12;
    private static final int MARKS = 3;
    private static final int MERGED_JARS = 6;
    private static final int JAR_ROOM = 12;
    private static final int SOUND_ROOM = 16;
    private static final int LATEST_ECHO = 15;
    private static final int LATEST_JAR = 12;
    private static final int REST = 0;
    private static final int LETTERS = 26;
    private static final int LAST_DAY = 9999;
    private static final int LAST_SEED = 9999;
    private static final int LONG_TIME = 999;
    private static final int ROAD_DAYS = 30;
    private static final int SIXTEEN = 16;
    private static final int FAR_AWAY = 1000000;

    private final Tray[] trays;
    private final Tape tape;
    private final ShopReader shopReader;
    private final LawReader lawReader;
    private final Mark[] marks;
    private final Row[] heardRows;
    private final Row slice;
    private final Row mixed;
    private final int[] counts;
    private final int[] brokeDays;
    private final int[] triedDays;
    private final Merger merger;
    private final Planner planner;
    private Shop stock;
    private Law rules;
    private int today;
    private int markCount;
    private int state;
    private long fractionTop;
    private long fractionBottom;

    public EchoJars() {
        trays = new Tray[] {new Tray(), new Tray(), new Tray(), new Tray()};
        tape = new Tape();
        shopReader = new ShopReader(tape);
        lawReader = new LawReader(tape);
        stock = new Shop();
        rules = new Law();
        marks = new Mark[] {new Mark(stock, rules), new Mark(stock, rules), new Mark(stock, rules)};
        heardRows = new Row[THINGS];
        for (int jar = 0; jar < THINGS; jar++) {
            heardRows[jar] = new Row(new int[0]);
        }
        slice = new Row(new int[0]);
        mixed = new Row(new int[SOUND_ROOM + LATEST_ECHO]);
        counts = new int[LETTERS + 1];
        brokeDays = new int[THINGS];
        triedDays = new int[THINGS];
        merger = new Merger();
        planner = new Planner();
        fractionBottom = 1;
    }

    public int status() {
        return state;
    }

    public long top() {
        return fractionTop;
    }

    public long bottom() {
        return fractionBottom;
    }

    // ---- TRAYS

    public boolean tray(int tray, int sort, int many) {
        if (!isTray(tray) || !within(sort, 0, Tray.LAST_SORT)) {
            return deny(NO_TRAY);
        }
        if (many > TRAY_ROOM) {
            return deny(BAD_NUMBER);
        }
        if (many < 0) {
            return deny(BELOW_ZERO);
        }
        trays[tray].lay(sort, many);
        return allow();
    }

    public boolean write(int tray, int place, long v) {
        int reason = placeReason(tray, place);
        if (reason != FINE) {
            return deny(reason);
        }
        trays[tray].put(place, v);
        return allow();
    }

    public long read(int tray, int place) {
        int reason = placeReason(tray, place);
        if (reason != FINE) {
            return refuse(reason);
        }
        state = FINE;
        return trays[tray].get(place);
    }

    public boolean pour(int tray, int i, int to, int j, int many) {
        if (!isTray(tray) || !isTray(to)) {
            return deny(NO_TRAY);
        }
        Tray source = trays[tray];
        Tray goal = trays[to];
        if (source.isMissing() || goal.isMissing()) {
            return deny(IS_MISSING);
        }
        if (source.sort != goal.sort) {
            return deny(UNLIKE_SORTS);
        }
        if (many < 0) {
            return deny(BELOW_ZERO);
        }
        if (!source.hasRun(i, many) || !goal.hasRun(j, many)) {
            return deny(NO_PLACE);
        }
        System.arraycopy(source.numbers, i, goal.numbers, j, many);
        return allow();
    }

    // ---- texts

    public int feed(int a, int b, int c, int d, int e) {
        if (!tape.hasRoomFor(20)) {
            return NONE;
        }
        tape.addInt(a);
        tape.addInt(b);
        tape.addInt(c);
        tape.addInt(d);
        tape.addInt(e);
        return tape.used;
    }

    public int shop(int n) {
        if (!within(n, 0, tape.used)) {
            return refuse(BAD_NUMBER);
        }
        Shop next = shopReader.readShop(n);
        tape.empty();
        if (tape.hasFault()) {
            return refuse(HAS_FAULT);
        }
        stock = next;
        rules = new Law();
        today = 0;
        for (int jar = 0; jar < THINGS; jar++) {
            brokeDays[jar] = 0;
        }
        return answer(stock.jarCount);
    }

    public int law(int n) {
        if (!within(n, 0, Math.min(tape.used, LAW_ROOM))) {
            return refuse(BAD_NUMBER);
        }
        Law next = lawReader.readLaw(n);
        tape.empty();
        if (tape.hasFault()) {
            return refuse(HAS_FAULT);
        }
        rules = next;
        return answer(rules.ruleCount);
    }

    public int fault(int what) {
        if (what == 0) {
            return tape.fault;
        }
        return what == 1 ? tape.faultPlace : NONE;
    }

    public int many(int what) {
        switch (what) {
            case 0:
                return answer(stock.soundCount);
            case 1:
                return answer(stock.jarCount);
            case 2:
                return answer(rules.ruleCount);
            case 3:
                return answer(today);
            case 4:
                return answer(stock.jarCount - Integer.bitCount(stock.filledJars()));
            default:
                return refuse(BAD_NUMBER);
        }
    }

    public int letter(int sound, int k) {
        if (!isSound(sound)) {
            return refuse(NO_THING);
        }
        return answerAt(stock.sounds[sound], k);
    }

    public int jar(int jar, int what) {
        if (!isJar(jar)) {
            return refuse(NO_THING);
        }
        if (!within(what, 0, Jar.LAST_TOLD)) {
            return refuse(BAD_NUMBER);
        }
        Jar asked = stock.jars[jar];
        if (what >= Jar.FIRST_OF_FILL && asked.isEmpty()) {
            return refuse(NO_SUCH);
        }
        return answer(asked.told(what));
    }

    public boolean day(int day) {
        if (!within(day, 0, LAST_DAY)) {
            return deny(BAD_NUMBER);
        }
        today = day;
        return allow();
    }

    // ---- what is HEARD

    public int heard(int jar) {
        if (!isJar(jar)) {
            return refuse(NO_THING);
        }
        return answer(hear(jar).size);
    }

    public int heardAt(int jar, int k) {
        if (!isJar(jar)) {
            return refuse(NO_THING);
        }
        return answerAt(hear(jar), k);
    }

    public int pourOut(int jar, int tray) {
        if (!isTray(tray)) {
            return refuse(NO_TRAY);
        }
        if (!isJar(jar)) {
            return refuse(NO_THING);
        }
        return bring(hear(jar), tray);
    }

    public int lost(int jar) {
        if (!isJar(jar)) {
            return refuse(NO_THING);
        }
        return answer(stock.jars[jar].lostBy(today));
    }

    public int silent(int jar) {
        if (!isJar(jar)) {
            return refuse(NO_THING);
        }
        return answerOrNoSuch(stock.jars[jar].firstDayWith(0));
    }

    public int loudest(int days, int what) {
        if (!within(days, 0, LONG_TIME) || !within(what, 0, 1)) {
            return refuse(BAD_NUMBER);
        }
        int found = stock.loudestDay(today, today + days);
        return answer(what == 0 ? found : stock.lettersOn(found));
    }

    public int atOnce(int a, int b, int tray) {
        if (!isTray(tray)) {
            return refuse(NO_TRAY);
        }
        if (!isJar(a) || !isJar(b)) {
            return refuse(NO_THING);
        }
        return bring(mixRows(hear(a), hear(b), 0), tray);
    }

    public long couples(int tray, int many) {
        int reason = rowReason(tray, many, 6, REST);
        if (reason != FINE) {
            return refuse(reason);
        }
        countCouples();
        long product = 1;
        for (int k = 0; k < many; k++) {
            product *= counts[(int) trays[tray].get(k)];
        }
        state = FINE;
        return product;
    }

    public int mixes(int a, int b) {
        if (!isLetterOrRest(a) || !isLetterOrRest(b)) {
            return refuse(BAD_NUMBER);
        }
        return answer(rules.mix(a, b));
    }

    public int others(int a, int gives) {
        if (!isLetterOrRest(a) || !isLetterOrRest(gives)) {
            return refuse(BAD_NUMBER);
        }
        return answer(rules.partners(a, gives));
    }

    public int echoed(int sound, int later, int tray) {
        if (!isTray(tray)) {
            return refuse(NO_TRAY);
        }
        if (!isSound(sound)) {
            return refuse(NO_THING);
        }
        if (!within(later, 0, LATEST_ECHO)) {
            return refuse(BAD_NUMBER);
        }
        Row row = stock.sounds[sound];
        return bring(mixRows(row, row, later), tray);
    }

    public int clearest(int a, int b, int what) {
        if (!isJar(a) || !isJar(b)) {
            return refuse(NO_THING);
        }
        if (!within(what, 0, 1)) {
            return refuse(BAD_NUMBER);
        }
        Row first = hear(a);
        Row second = hear(b);
        int most = NONE;
        int best = 0;
        for (int later = 0; later <= LATEST_JAR; later++) {
            int clear = mixRows(first, second, later).countLetters();
            if (clear > most) {
                most = clear;
                best = later;
            }
        }
        return answer(what == 0 ? best : most);
    }

    public long beside(int tray, int many, int sound, int from) {
        if (!isTray(tray)) {
            return refuse(NO_TRAY);
        }
        if (!isSound(sound)) {
            return refuse(NO_THING);
        }
        int reason = rowReason(tray, many, 8, REST);
        if (reason == FINE && !within(from, 0, SOUND_ROOM - 1)) {
            reason = BAD_NUMBER;
        }
        if (reason != FINE) {
            return refuse(reason);
        }
        long product = 1;
        for (int k = 0; k < many; k++) {
            int ahead = stock.sounds[sound].at(from + k);
            product *= Integer.bitCount(rules.partners(ahead, (int) trays[tray].get(k)));
        }
        state = FINE;
        return product;
    }

    // ---- what it was

    public int fits(int jars) {
        if (!isJarSet(jars)) {
            return refuse(NO_THING);
        }
        int fitting = stock.allSounds();
        for (int jar = 0; jar < stock.jarCount; jar++) {
            if (isIn(jars, jar)) {
                fitting &= stock.soundsWith(hear(jar));
            }
        }
        return answer(fitting);
    }

    public int places(int jar, int sound) {
        if (!isJar(jar) || !isSound(sound)) {
            return refuse(NO_THING);
        }
        return answer(hear(jar).timesIn(stock.sounds[sound]));
    }

    public int speaks(int sound) {
        if (!isSound(sound)) {
            return refuse(NO_THING);
        }
        return answer(speakers(sound));
    }

    public int kinds(int jars) {
        if (!isJarSet(jars)) {
            return refuse(NO_THING);
        }
        int letters = 0;
        for (int jar = 0; jar < stock.jarCount; jar++) {
            if (isIn(jars, jar)) {
                letters |= hear(jar).letterSet();
            }
        }
        return answer(Integer.bitCount(letters));
    }

    public int laps(int a, int b) {
        if (!isJar(a) || !isJar(b)) {
            return refuse(NO_THING);
        }
        return answer(hear(a).overlap(hear(b)));
    }

    public int merged(int jars) {
        if (!isJarSet(jars)) {
            return refuse(NO_THING);
        }
        if (Integer.bitCount(jars) > MERGED_JARS) {
            return refuse(BAD_NUMBER);
        }
        merger.clear();
        for (int jar = 0; jar < stock.jarCount; jar++) {
            if (isIn(jars, jar)) {
                merger.add(hear(jar));
            }
        }
        merger.mergeAll();
        return answer(merger.best.size);
    }

    public int mergedAt(int k) {
        return answerAt(merger.best, k);
    }

    public int since(int jar, int letters, int what) {
        if (!isJar(jar)) {
            return refuse(NO_THING);
        }
        if (!within(letters, 0, JAR_ROOM) || !within(what, 0, 1)) {
            return refuse(BAD_NUMBER);
        }
        Jar asked = stock.jars[jar];
        return answerOrNoSuch(what == 0 ? asked.firstDayWith(letters) : asked.lastDayWith(letters));
    }

    public int far(int jar, int sound) {
        if (!isJar(jar) || !isSound(sound)) {
            return refuse(NO_THING);
        }
        return answer(hear(jar).editsTo(stock.sounds[sound], counts));
    }

    public int common(int a, int b) {
        if (!isJar(a) || !isJar(b)) {
            return refuse(NO_THING);
        }
        Row first = hear(a);
        Row second = hear(b);
        int longest = 0;
        for (int from = 0; from < first.size; from++) {
            longest = Math.max(longest, first.stretchIn(second, from));
        }
        return answer(longest);
    }

    public int chain(int n) {
        if (!within(n, 1, JAR_ROOM - 1)) {
            return refuse(BAD_NUMBER);
        }
        if (stock.jarCount == 0) {
            return refuse(NO_SUCH);
        }
        for (int jar = 0; jar < stock.jarCount; jar++) {
            planner.link(jar, followers(jar, n));
        }
        planner.findChain(stock.jarCount);
        return answer(planner.chainOrder.size);
    }

    public int chainAt(int k) {
        return answerAt(planner.chainOrder, k);
    }

    public int witness(int sound) {
        if (!isSound(sound)) {
            return refuse(NO_THING);
        }
        return answerOrNoSuch(leastWitness(1 << sound));
    }

    public int fillFrom(int jar, int sound, int days) {
        if (!isJar(jar) || !isSound(sound)) {
            return refuse(NO_THING);
        }
        if (!within(days, 0, LONG_TIME)) {
            return refuse(BAD_NUMBER);
        }
        return answerOrNoSuch(bestFilling(stock.jars[jar], stock.sounds[sound], days));
    }

    // ---- what to do

    public int keeps(int jar, int days) {
        if (!isJar(jar)) {
            return refuse(NO_THING);
        }
        if (!within(days, 0, LONG_TIME)) {
            return refuse(BAD_NUMBER);
        }
        return answer(stock.jars[jar].keptAfter(days));
    }

    public int fewest(int sound, int days) {
        if (!isSound(sound)) {
            return refuse(NO_THING);
        }
        if (!within(days, 0, LONG_TIME)) {
            return refuse(BAD_NUMBER);
        }
        int set = stock.leastSet(stock.sounds[sound].size, days, false);
        return set == NONE ? refuse(CANNOT_BE) : answer(Integer.bitCount(set));
    }

    public int cheapest(int sound, int days, int what) {
        if (!isSound(sound)) {
            return refuse(NO_THING);
        }
        if (!within(days, 0, LONG_TIME) || !within(what, 0, 1)) {
            return refuse(BAD_NUMBER);
        }
        int set = stock.leastSet(stock.sounds[sound].size, days, true);
        if (set == NONE) {
            return refuse(CANNOT_BE);
        }
        return answer(what == 0 ? stock.priceOf(set, true) : set);
    }

    public int shelf() {
        if (stock.filledJars() == 0) {
            return refuse(NO_SUCH);
        }
        return answer(planner.findShelf(stock, today));
    }

    public int shelfAt(int k) {
        return answerAt(planner.shelfOrder, k);
    }

    public int pieced(int sound, int what) {
        if (!isSound(sound)) {
            return refuse(NO_THING);
        }
        if (!within(what, 0, 1)) {
            return refuse(BAD_NUMBER);
        }
        int least = leastPiecing(stock.sounds[sound], what == 1);
        return least == FAR_AWAY ? refuse(CANNOT_BE) : answer(least);
    }

    // ---- the ROAD

    public int road(int seed, int days) {
        if (!within(seed, 0, LAST_SEED) || !within(days, 1, ROAD_DAYS)) {
            return refuse(BAD_NUMBER);
        }
        return answer(stock.travel(seed, days, brokeDays));
    }

    public int brokeOn(int jar) {
        if (!isJar(jar)) {
            return refuse(NO_THING);
        }
        return brokeDays[jar] == 0 ? refuse(NO_SUCH) : answer(brokeDays[jar]);
    }

    public boolean odds(int sound, int days, int seed, int many) {
        if (!isSound(sound)) {
            return deny(NO_THING);
        }
        if (!within(days, 1, ROAD_DAYS) || !within(seed, 0, LAST_SEED) || !within(many, 1, 20)
                || seed + many - 1 > LAST_SEED) {
            return deny(BAD_NUMBER);
        }
        int speakers = speakers(sound);
        int good = 0;
        for (int k = 0; k < many; k++) {
            if ((stock.travel(seed + k, days, triedDays) & speakers) != 0) {
                good++;
            }
        }
        tellFraction(good, many);
        return allow();
    }

    public boolean safe(int jar, int days, int what) {
        if (!isJar(jar)) {
            return deny(NO_THING);
        }
        if (!within(days, 1, 5) || !within(what, 0, 1)) {
            return deny(BAD_NUMBER);
        }
        long whole = 1;
        long all = 1;
        for (int k = 0; k < days; k++) {
            whole *= SIXTEEN - stock.jars[jar].breaks;
            all *= SIXTEEN;
        }
        if (what == 0) {
            tellFraction(whole, all);
        } else {
            long broken = all - whole;
            tellFraction(all * all - broken * broken, all * all);
        }
        return allow();
    }

    // ---- three

    public boolean third(int a, int b, int to, int many) {
        int reason = threeReason(a, b, to, many);
        if (reason != FINE) {
            return deny(reason);
        }
        for (int k = 0; k < many; k++) {
            trays[to].put(k, thirdOf(trays[a].get(k), trays[b].get(k)));
        }
        return allow();
    }

    public boolean second(int a, int third, int to, int many) {
        int reason = threeReason(a, third, to, many);
        if (reason != FINE) {
            return deny(reason);
        }
        for (int k = 0; k < many; k++) {
            trays[to].put(k, secondOf(trays[a].get(k), trays[third].get(k)));
        }
        return allow();
    }

    public int anyTwo(int a, int b, int c) {
        if (!isJar(a) || !isJar(b) || !isJar(c)) {
            return refuse(NO_THING);
        }
        return answer(isThird(hear(a), hear(b), hear(c)) ? 1 : 0);
    }

    // ---- MARKS

    public int mark() {
        if (markCount >= MARKS) {
            return refuse(ONE_TOO_MANY);
        }
        Mark next = marks[markCount];
        next.stock = stock;
        next.rules = rules;
        next.today = today;
        markCount++;
        return answer(markCount);
    }

    public int back() {
        if (markCount <= 0) {
            return refuse(NO_SUCH);
        }
        markCount--;
        Mark latest = marks[markCount];
        stock = latest.stock;
        rules = latest.rules;
        today = latest.today;
        return answer(markCount);
    }

    // ---- how calls end

    private int answer(int value) {
        state = FINE;
        return value;
    }

    private int refuse(int reason) {
        state = reason;
        return NONE;
    }

    private boolean allow() {
        state = FINE;
        return true;
    }

    private boolean deny(int reason) {
        state = reason;
        return false;
    }

    private int answerAt(Row row, int k) {
        return row.has(k) ? answer(row.at(k)) : refuse(NO_SUCH);
    }

    private int answerOrNoSuch(int value) {
        return value == NONE ? refuse(NO_SUCH) : answer(value);
    }

    private int bring(Row row, int tray) {
        Tray goal = trays[tray];
        if (goal.isMissing()) {
            return refuse(IS_MISSING);
        }
        if (row.size > goal.size) {
            return refuse(NO_PLACE);
        }
        for (int k = 0; k < row.size; k++) {
            goal.put(k, row.at(k));
        }
        return answer(row.size);
    }

    private void tellFraction(long over, long under) {
        long divisor = under;
        long rest = over;
        // far fewer steps than 200 are needed: the rests halve every second step
        for (int step = 0; step < 200 && rest != 0; step++) {
            long next = divisor % rest;
            divisor = rest;
            rest = next;
        }
        if (divisor != 0) {
            fractionTop = over / divisor;
            fractionBottom = under / divisor;
        }
    }

    // ---- what calls ask first

    private static boolean within(long value, long least, long most) {
        return value >= least && value <= most;
    }

    private static boolean isIn(int set, int thing) {
        return (set >> thing & 1) != 0;
    }

    private static boolean isTray(int tray) {
        return within(tray, 0, TRAYS - 1);
    }

    private static boolean isLetterOrRest(int value) {
        return within(value, REST, LETTERS);
    }

    private boolean isJar(int jar) {
        return within(jar, 0, stock.jarCount - 1);
    }

    private boolean isSound(int sound) {
        return within(sound, 0, stock.soundCount - 1);
    }

    private boolean isJarSet(int jars) {
        return within(jars, 0, stock.allJars());
    }

    private int placeReason(int tray, int place) {
        if (!isTray(tray)) {
            return NO_TRAY;
        }
        if (trays[tray].isMissing()) {
            return IS_MISSING;
        }
        return trays[tray].hasRun(place, 1) ? FINE : NO_PLACE;
    }

    private int rowReason(int tray, int many, int most, int least) {
        if (!isTray(tray)) {
            return NO_TRAY;
        }
        if (trays[tray].isMissing()) {
            return IS_MISSING;
        }
        if (many > trays[tray].size) {
            return NO_PLACE;
        }
        boolean good = within(many, 1, most) && trays[tray].holdsOnly(many, least, LETTERS);
        return good ? FINE : BAD_NUMBER;
    }

    private int threeReason(int a, int b, int to, int many) {
        if (!isTray(a) || !isTray(b) || !isTray(to)) {
            return NO_TRAY;
        }
        if (trays[a].isMissing() || trays[b].isMissing() || trays[to].isMissing()) {
            return IS_MISSING;
        }
        if (many > trays[a].size || many > trays[b].size || many > trays[to].size) {
            return NO_PLACE;
        }
        int reason = rowReason(a, many, 16, 1);
        return reason == FINE ? rowReason(b, many, 16, 1) : reason;
    }

    // ---- what calls share

    private Row hear(int jar) {
        stock.listen(heardRows[jar], stock.jars[jar], today);
        return heardRows[jar];
    }

    private Row mixRows(Row first, Row second, int later) {
        int size = Math.max(first.size, later + second.size);
        mixed.clear();
        for (int k = 0; k < size; k++) {
            mixed.add(rules.mix(first.at(k), second.at(k - later)));
        }
        return mixed;
    }

    private void countCouples() {
        for (int gives = 0; gives <= LETTERS; gives++) {
            counts[gives] = 0;
        }
        for (int first = 1; first <= LETTERS; first++) {
            for (int second = 1; second <= LETTERS; second++) {
                counts[rules.mix(first, second)]++;
            }
        }
    }

    private int speakers(int sound) {
        int set = 0;
        for (int jar = 0; jar < stock.jarCount; jar++) {
            if (hear(jar).timesIn(stock.sounds[sound]) > 0) {
                set |= 1 << jar;
            }
        }
        return set;
    }

    private int followers(int jar, int n) {
        Row row = hear(jar);
        int set = 0;
        for (int next = 0; next < stock.jarCount; next++) {
            if (next != jar && row.overlap(hear(next)) >= n) {
                set |= 1 << next;
            }
        }
        return set;
    }

    private int leastWitness(int wanted) {
        for (int jar = 0; jar < stock.jarCount; jar++) {
            counts[jar] = stock.soundsWith(hear(jar));
        }
        int best = NONE;
        for (int set = 0; set <= stock.allJars(); set++) {
            boolean fewer = best == NONE || Integer.bitCount(set) < Integer.bitCount(best);
            if (fewer && fitsCounted(set) == wanted) {
                best = set;
            }
        }
        return best;
    }

    private int fitsCounted(int set) {
        int fitting = stock.allSounds();
        for (int jar = 0; jar < stock.jarCount; jar++) {
            if (isIn(set, jar)) {
                fitting &= counts[jar];
            }
        }
        return fitting;
    }

    private int bestFilling(Jar jar, Row sound, int days) {
        int gone = jar.goneAfter(days);
        int best = NONE;
        int least = FAR_AWAY;
        for (int from = 0; from < sound.size; from++) {
            int left = Math.min(jar.size, sound.size - from) - gone;
            if (left > 0) {
                slice.show(sound.numbers, sound.start + from + jar.fromHead(gone), left);
                int seen = stock.timesInAll(slice);
                if (seen < least) {
                    least = seen;
                    best = from;
                }
            }
        }
        return best;
    }

    private int leastPiecing(Row sound, boolean byJoins) {
        int end = Math.min(sound.size, SOUND_ROOM);
        for (int to = 1; to <= end; to++) {
            counts[to] = FAR_AWAY;
        }
        counts[0] = 0;
        for (int from = 0; from < end; from++) {
            int reach = counts[from] == FAR_AWAY ? 0 : longestPiece(sound, from);
            int cost = byJoins ? joinsHeard(sound, from) : 1;
            for (int to = from + 1; to <= from + reach && to <= end; to++) {
                counts[to] = Math.min(counts[to], counts[from] + cost);
            }
        }
        return counts[end];
    }

    private int longestPiece(Row sound, int from) {
        int longest = 0;
        for (int jar = 0; jar < stock.jarCount; jar++) {
            longest = Math.max(longest, sound.stretchIn(hear(jar), from));
        }
        return longest;
    }

    private static int joinsHeard(Row sound, int from) {
        return from > 0 && isVowel(sound.at(from - 1)) == isVowel(sound.at(from)) ? 1 : 0;
    }

    private static boolean isVowel(int letter) {
        return letter == 1 || letter == 5 || letter == 9 || letter == 15 || letter == 21;
    }

    private static long thirdOf(long first, long second) {
        return (first + second - 2) % LETTERS + 1;
    }

    private static long secondOf(long first, long third) {
        return (third - first + LETTERS) % LETTERS + 1;
    }

    private static boolean isThird(Row first, Row second, Row third) {
        boolean alike = first.size > 0 && first.size == second.size && first.size == third.size;
        for (int k = 0; alike && k < first.size; k++) {
            alike = thirdOf(first.at(k), second.at(k)) == third.at(k);
        }
        return alike;
    }

    /** Numbers of one sort; MISSING until it is laid for the first time. */
    private static final class Tray {
        static final int LAST_SORT = 3;

        final long[] numbers = new long[TRAY_ROOM];
        int sort = NONE;
        int size;

        boolean isMissing() {
            return sort == NONE;
        }

        void lay(int newSort, int newSize) {
            sort = newSort;
            size = Math.min(newSize, TRAY_ROOM);
            for (int place = 0; place < TRAY_ROOM; place++) {
                numbers[place] = 0;
            }
        }

        // by long, so that a place near the greatest int can't wrap around
        boolean hasRun(int from, int length) {
            return from >= 0 && length >= 0 && (long) from + length <= size;
        }

        long get(int place) {
            return hasRun(place, 1) ? numbers[place] : NONE;
        }

        void put(int place, long value) {
            if (hasRun(place, 1)) {
                numbers[place] = cut(value);
            }
        }

        private long cut(long value) {
            switch (sort) {
                case 0:
                    return (byte) value;
                case 1:
                    return (short) value;
                case 2:
                    return (int) value;
                default:
                    return value;
            }
        }

        boolean holdsOnly(int length, int least, int most) {
            boolean good = length <= size;
            for (int place = 0; good && place < length; place++) {
                good = within(numbers[place], least, most);
            }
            return good;
        }
    }

    /** A row of letters of its own, or a part of another one's: what is heard is always a part of a sound. */
    private static final class Row {
        int[] numbers;
        int start;
        int size;

        Row(int[] room) {
            numbers = room;
        }

        void show(int[] source, int from, int length) {
            boolean inside = from >= 0 && length >= 0 && from <= source.length - length;
            numbers = source;
            start = inside ? from : 0;
            size = inside ? length : 0;
        }

        void clear() {
            size = 0;
        }

        void add(int number) {
            if (start + size < numbers.length) {
                numbers[start + size] = number;
                size++;
            }
        }

        boolean has(int k) {
            return k >= 0 && k < size;
        }

        // a REST outside, for rows are mixed beyond their ends
        int at(int k) {
            return has(k) ? numbers[start + k] : REST;
        }

        int countLetters() {
            int found = 0;
            for (int k = 0; k < size; k++) {
                if (at(k) != REST) {
                    found++;
                }
            }
            return found;
        }

        int letterSet() {
            int set = 0;
            for (int k = 0; k < size; k++) {
                set |= 1 << at(k);
            }
            return set;
        }

        boolean standsAt(Row whole, int place) {
            boolean same = true;
            for (int k = 0; same && k < size; k++) {
                same = at(k) == whole.at(place + k);
            }
            return same;
        }

        int timesIn(Row whole) {
            int times = 0;
            for (int place = 0; size > 0 && place <= whole.size - size; place++) {
                if (standsAt(whole, place)) {
                    times++;
                }
            }
            return times;
        }

        boolean standsIn(Row whole) {
            return size == 0 || timesIn(whole) > 0;
        }

        int overlap(Row next) {
            for (int length = Math.min(size, next.size) - 1; length > 0; length--) {
                if (tailIsHead(next, length)) {
                    return length;
                }
            }
            return 0;
        }

        private boolean tailIsHead(Row next, int length) {
            boolean same = true;
            for (int k = 0; same && k < length; k++) {
                same = at(size - length + k) == next.at(k);
            }
            return same;
        }

        /** How many letters from one on stand side by side somewhere in another row. */
        int stretchIn(Row other, int from) {
            int longest = 0;
            for (int place = 0; place < other.size; place++) {
                int length = 0;
                while (from + length < size && place + length < other.size
                        && at(from + length) == other.at(place + length)) {
                    length++;
                }
                longest = Math.max(longest, length);
            }
            return longest;
        }

        /** The edit distance, row by row in one array; it needs a place more than the goal has letters. */
        int editsTo(Row goal, int[] steps) {
            int end = Math.min(goal.size, steps.length - 1);
            for (int k = 0; k <= end; k++) {
                steps[k] = k;
            }
            for (int i = 0; i < size; i++) {
                int corner = steps[0];
                steps[0] = i + 1;
                for (int k = 1; k <= end; k++) {
                    int swap = corner + (at(i) == goal.at(k - 1) ? 0 : 1);
                    corner = steps[k];
                    steps[k] = Math.min(swap, Math.min(corner, steps[k - 1]) + 1);
                }
            }
            return steps[end];
        }
    }

    private static final class Jar {
        static final int HEAD = 0;
        static final int TAIL = 1;
        static final int TURNS = 2;
        static final int FIRST_OF_FILL = 7;
        static final int LAST_TOLD = 8;

        int size;
        int leaks;
        int side;
        int costs;
        int worth = 1;
        int breaks;
        int filled;
        int filledOn;
        int sound;
        int from;

        boolean isEmpty() {
            return filled == 0;
        }

        int told(int what) {
            switch (what) {
                case 0:
                    return size;
                case 1:
                    return leaks;
                case 2:
                    return side;
                case 3:
                    return costs;
                case 4:
                    return worth;
                case 5:
                    return breaks;
                case 6:
                    return filled;
                case 7:
                    return filledOn;
                default:
                    return sound;
            }
        }

        int goneAfter(int days) {
            return leaks == 0 ? 0 : days / leaks;
        }

        int lostBy(int day) {
            return day < filledOn ? 0 : Math.min(filled, goneAfter(day - filledOn));
        }

        int leftOn(int day) {
            return day < filledOn ? 0 : filled - lostBy(day);
        }

        int fromHead(int gone) {
            if (side == HEAD) {
                return gone;
            }
            return side == TAIL ? 0 : (gone + 1) / 2;
        }

        int keptAfter(int days) {
            return Math.max(0, size - goneAfter(days));
        }

        int firstDayWith(int letters) {
            if (isEmpty() || letters > filled || (leaks == 0 && letters < filled)) {
                return NONE;
            }
            return filledOn + (filled - letters) * leaks;
        }

        int lastDayWith(int letters) {
            int first = firstDayWith(letters);
            return first == NONE || leaks == 0 || letters == 0 ? NONE : first + leaks - 1;
        }
    }

    /** Never changed once it is read, so that marks can hold it as it is. */
    private static final class Shop {
        final Row[] sounds = new Row[THINGS];
        final Jar[] jars = new Jar[THINGS];
        int soundCount;
        int jarCount;

        Shop() {
            for (int k = 0; k < THINGS; k++) {
                sounds[k] = new Row(new int[SOUND_ROOM]);
                jars[k] = new Jar();
            }
        }

        int allSounds() {
            return (1 << soundCount) - 1;
        }

        int allJars() {
            return (1 << jarCount) - 1;
        }

        int filledJars() {
            int set = 0;
            for (int jar = 0; jar < jarCount; jar++) {
                if (!jars[jar].isEmpty()) {
                    set |= 1 << jar;
                }
            }
            return set;
        }

        void listen(Row view, Jar jar, int day) {
            Row sound = sounds[jar.sound];
            int head = jar.fromHead(jar.lostBy(day));
            view.show(sound.numbers, sound.start + jar.from + head, jar.leftOn(day));
        }

        int lettersOn(int day) {
            int sum = 0;
            for (int jar = 0; jar < jarCount; jar++) {
                sum += jars[jar].leftOn(day);
            }
            return sum;
        }

        // more is heard than the day before only where a jar is filled, so no other days are asked
        int loudestDay(int first, int last) {
            int best = first;
            int most = lettersOn(first);
            for (int jar = 0; jar < jarCount; jar++) {
                int day = jars[jar].filledOn;
                if (day > first && day <= last) {
                    int letters = lettersOn(day);
                    if (letters > most || (letters == most && day < best)) {
                        most = letters;
                        best = day;
                    }
                }
            }
            return best;
        }

        int soundsWith(Row row) {
            int set = 0;
            for (int sound = 0; sound < soundCount; sound++) {
                if (row.standsIn(sounds[sound])) {
                    set |= 1 << sound;
                }
            }
            return set;
        }

        int timesInAll(Row row) {
            int times = 0;
            for (int sound = 0; sound < soundCount; sound++) {
                times += row.timesIn(sounds[sound]);
            }
            return times;
        }

        int priceOf(int set, boolean byCost) {
            int sum = 0;
            for (int jar = 0; jar < jarCount; jar++) {
                if (isIn(set, jar)) {
                    sum += byCost ? jars[jar].costs : 1;
                }
            }
            return sum;
        }

        private int keptBy(int set, int days) {
            int sum = 0;
            for (int jar = 0; jar < jarCount; jar++) {
                if (isIn(set, jar)) {
                    sum += jars[jar].keptAfter(days);
                }
            }
            return sum;
        }

        int leastSet(int letters, int days, boolean byCost) {
            int best = NONE;
            int least = FAR_AWAY;
            for (int set = 0; set <= allJars(); set++) {
                int price = priceOf(set, byCost);
                if (price < least && keptBy(set, days) >= letters) {
                    least = price;
                    best = set;
                }
            }
            return best;
        }

        int travel(int seed, int days, int[] broken) {
            for (int jar = 0; jar < THINGS && jar < broken.length; jar++) {
                broken[jar] = 0;
            }
            int whole = allJars();
            int s = seed;
            for (int day = 1; day <= days; day++) {
                for (int jar = 0; jar < jarCount && jar < broken.length; jar++) {
                    if (isIn(whole, jar)) {
                        s = (s * 2683 + 9419) % 65536;
                        if (s / 8 % SIXTEEN < jars[jar].breaks) {
                            whole &= ~(1 << jar);
                            broken[jar] = day;
                        }
                    }
                }
            }
            return whole;
        }
    }

    /** Never changed once it is read, so that marks can hold it as it is. */
    private static final class Law {
        static final int ANY = 27;
        static final int FIRST = 27;
        static final int SECOND = 28;

        final int[] firsts = new int[RULES];
        final int[] seconds = new int[RULES];
        final int[] gifts = new int[RULES];
        int ruleCount;

        void add(int first, int second, int gift) {
            if (ruleCount < RULES) {
                firsts[ruleCount] = first;
                seconds[ruleCount] = second;
                gifts[ruleCount] = gift;
                ruleCount++;
            }
        }

        int mix(int a, int b) {
            for (int rule = 0; rule < ruleCount; rule++) {
                if (suits(firsts[rule], a) && suits(seconds[rule], b)) {
                    return given(gifts[rule], a, b);
                }
            }
            if (a == b || b == REST) {
                return a;
            }
            return a == REST ? b : REST;
        }

        private static boolean suits(int kind, int value) {
            return kind == ANY || kind == value;
        }

        private static int given(int gift, int a, int b) {
            if (gift == FIRST) {
                return a;
            }
            return gift == SECOND ? b : gift;
        }

        int partners(int a, int gives) {
            int set = 0;
            for (int b = REST; b <= LETTERS; b++) {
                if (mix(a, b) == gives) {
                    set |= 1 << b;
                }
            }
            return set;
        }
    }

    private static final class Mark {
        Shop stock;
        Law rules;
        int today;

        Mark(Shop stock, Law rules) {
            this.stock = stock;
            this.rules = rules;
        }
    }

    /** The bytes that were fed, and the token read latest; behind the first fault nothing is taken any more. */
    private static final class Tape {
        static final int STRANGE = 1;
        static final int MISPLACED = 2;
        static final int WRONG_NAME = 3;
        static final int WRONG_NUMBER = 4;
        static final int FILLED_ALREADY = 5;
        static final int ONE_MORE = 6;

        private static final int END = 0;
        private static final int WORD = 1;
        private static final int NUMBER = 2;
        private static final int SIGN = 3;
        private static final int NO_TOKEN = 4;
        private static final int DIGITS = 4;
        private static final int NAME_ROOM = 8;

        private final byte[] bytes = new byte[TAPE_ROOM];
        int used;
        int fault = NONE;
        int faultPlace = NONE;
        int start;
        private int length;
        private int end;
        private int kind;

        boolean hasRoomFor(int more) {
            return used + more <= TAPE_ROOM;
        }

        void addInt(int value) {
            for (int shift = 24; shift >= 0 && used < TAPE_ROOM; shift -= 8) {
                bytes[used] = (byte) (value >> shift);
                used++;
            }
        }

        void empty() {
            used = 0;
        }

        void open(int textLength) {
            length = Math.min(textLength, used);
            end = 0;
            fault = 0;
            faultPlace = NONE;
            next();
        }

        boolean hasFault() {
            return fault != 0;
        }

        boolean isAtEnd() {
            return kind == END;
        }

        int size() {
            return end - start;
        }

        int letterAt(int k) {
            int place = start + k;
            return place >= 0 && place < length ? bytes[place] - 'a' + 1 : REST;
        }

        void next() {
            while (end < length && isBlank(bytes[end])) {
                end++;
            }
            start = end;
            if (start >= length) {
                kind = END;
            } else if (isSmallLetter(bytes[start])) {
                kind = WORD;
                while (end < length && isSmallLetter(bytes[end])) {
                    end++;
                }
            } else if (isDigit(bytes[start])) {
                while (end < length && isDigit(bytes[end])) {
                    end++;
                }
                kind = size() > DIGITS ? NO_TOKEN : NUMBER;
            } else {
                kind = bytes[start] == ';' ? SIGN : NO_TOKEN;
                end++;
            }
        }

        private static boolean isBlank(byte sign) {
            return sign == 10 || sign == 32;
        }

        private static boolean isSmallLetter(byte sign) {
            return sign >= 'a' && sign <= 'z';
        }

        private static boolean isDigit(byte sign) {
            return sign >= '0' && sign <= '9';
        }

        void stop(int reason) {
            if (fault == 0) {
                fault = kind == NO_TOKEN ? STRANGE : reason;
                faultPlace = start;
            }
        }

        boolean isWordUpTo(int most) {
            return kind == WORD && size() <= most;
        }

        boolean isWord(String word) {
            boolean same = kind == WORD && size() == word.length();
            for (int k = 0; same && k < word.length(); k++) {
                same = letterAt(k) == word.charAt(k) - 'a' + 1;
            }
            return same;
        }

        boolean isWordOf(int from, int wordSize) {
            boolean same = kind == WORD && size() == wordSize && from >= 0 && from + wordSize <= length;
            for (int k = 0; same && k < wordSize; k++) {
                same = letterAt(k) == bytes[from + k] - 'a' + 1;
            }
            return same;
        }

        boolean isName() {
            boolean isKept = isWord("sound") || isWord("jar") || isWord("size") || isWord("leaks")
                    || isWord("head") || isWord("tail") || isWord("costs") || isWord("worth")
                    || isWord("breaks") || isWord("fill") || isWord("of") || isWord("from")
                    || isWord("on") || isWord("mix") || isWord("with") || isWord("gives")
                    || isWord("any") || isWord("same") || isWord("rest") || isWord("first")
                    || isWord("second");
            return isWordUpTo(NAME_ROOM) && !isKept;
        }

        boolean skipWord(String word) {
            boolean skips = fault == 0 && isWord(word);
            if (skips) {
                next();
            }
            return skips;
        }

        void takeWord(String word) {
            if (!skipWord(word)) {
                stop(MISPLACED);
            }
        }

        void takeSign() {
            if (kind != SIGN) {
                stop(MISPLACED);
            }
            if (fault == 0) {
                next();
            }
        }

        int takeNumber(int least, int most) {
            if (kind != NUMBER) {
                stop(MISPLACED);
            }
            if (fault != 0) {
                return 0;
            }
            int value = 0;
            for (int place = start; place < end; place++) {
                value = value * 10 + bytes[place] - '0';
            }
            if (!within(value, least, most)) {
                stop(WRONG_NUMBER);
                return 0;
            }
            next();
            return value;
        }
    }

    private static final class ShopReader {
        private final Tape tape;
        private final int[] soundNames = new int[THINGS];
        private final int[] soundSizes = new int[THINGS];
        private final int[] jarNames = new int[THINGS];
        private final int[] jarSizes = new int[THINGS];
        private Shop made;

        ShopReader(Tape tape) {
            this.tape = tape;
            made = new Shop();
        }

        Shop readShop(int length) {
            made = new Shop();
            tape.open(length);
            for (int part = 0; part <= length && !tape.hasFault() && !tape.isAtEnd(); part++) {
                if (tape.isWord("sound")) {
                    readSound();
                } else if (tape.isWord("jar")) {
                    readJar();
                } else if (tape.isWord("fill")) {
                    readFill();
                } else {
                    tape.stop(Tape.MISPLACED);
                }
            }
            return made;
        }

        private void readSound() {
            if (made.soundCount >= THINGS) {
                tape.stop(Tape.ONE_MORE);
                return;
            }
            tape.next();
            takeNewName(soundNames, soundSizes, made.soundCount);
            takeLetters(made.sounds[made.soundCount]);
            tape.takeSign();
            made.soundCount++;
        }

        private void readJar() {
            if (made.jarCount >= THINGS) {
                tape.stop(Tape.ONE_MORE);
                return;
            }
            tape.next();
            takeNewName(jarNames, jarSizes, made.jarCount);
            Jar jar = made.jars[made.jarCount];
            tape.takeWord("size");
            jar.size = tape.takeNumber(1, JAR_ROOM);
            tape.takeWord("leaks");
            jar.leaks = tape.takeNumber(0, 99);
            jar.side = takeSide();
            if (tape.skipWord("costs")) {
                jar.costs = tape.takeNumber(0, 99);
            }
            if (tape.skipWord("worth")) {
                jar.worth = tape.takeNumber(0, 99);
            }
            if (tape.skipWord("breaks")) {
                jar.breaks = tape.takeNumber(0, SIXTEEN - 1);
            }
            tape.takeSign();
            made.jarCount++;
        }

        private int takeSide() {
            boolean head = tape.skipWord("head");
            boolean tail = tape.skipWord("tail");
            if (head == tail) {
                return Jar.TURNS;
            }
            return head ? Jar.HEAD : Jar.TAIL;
        }

        private void readFill() {
            tape.next();
            int which = takeToldName(jarNames, jarSizes, made.jarCount, true);
            tape.takeWord("of");
            int sound = takeToldName(soundNames, soundSizes, made.soundCount, false);
            tape.takeWord("from");
            int letters = sound == NONE ? 0 : made.sounds[sound].size;
            int from = tape.takeNumber(0, letters - 1);
            tape.takeWord("on");
            int day = tape.takeNumber(0, LONG_TIME);
            tape.takeSign();
            if (!tape.hasFault() && which != NONE) {
                Jar jar = made.jars[which];
                jar.sound = sound;
                jar.from = from;
                jar.filled = Math.min(jar.size, letters - from);
                jar.filledOn = day;
            }
        }

        private void takeNewName(int[] names, int[] sizes, int slot) {
            if (!tape.isName()) {
                tape.stop(Tape.MISPLACED);
            } else if (findName(soundNames, soundSizes, made.soundCount) != NONE
                    || findName(jarNames, jarSizes, made.jarCount) != NONE) {
                tape.stop(Tape.WRONG_NAME);
            } else if (slot >= 0 && slot < names.length && slot < sizes.length) {
                names[slot] = tape.start;
                sizes[slot] = tape.size();
                tape.next();
            }
        }

        private int takeToldName(int[] names, int[] sizes, int count, boolean toFill) {
            if (!tape.isName()) {
                tape.stop(Tape.MISPLACED);
            }
            int found = findName(names, sizes, count);
            if (found == NONE) {
                tape.stop(Tape.WRONG_NAME);
            } else if (toFill && !made.jars[found].isEmpty()) {
                tape.stop(Tape.FILLED_ALREADY);
            }
            if (tape.hasFault()) {
                return NONE;
            }
            tape.next();
            return found;
        }

        private int findName(int[] names, int[] sizes, int count) {
            for (int k = 0; k < count && k < names.length && k < sizes.length; k++) {
                if (tape.isWordOf(names[k], sizes[k])) {
                    return k;
                }
            }
            return NONE;
        }

        private void takeLetters(Row row) {
            if (!tape.isWordUpTo(SOUND_ROOM)) {
                tape.stop(Tape.MISPLACED);
            }
            if (!tape.hasFault()) {
                for (int k = 0; k < tape.size(); k++) {
                    row.add(tape.letterAt(k));
                }
                tape.next();
            }
        }
    }

    private static final class LawReader {
        private final Tape tape;

        LawReader(Tape tape) {
            this.tape = tape;
        }

        Law readLaw(int length) {
            Law made = new Law();
            tape.open(length);
            for (int rule = 0; rule <= length && !tape.hasFault() && !tape.isAtEnd(); rule++) {
                readRule(made);
            }
            return made;
        }

        private void readRule(Law made) {
            if (made.ruleCount >= RULES && tape.isWord("mix")) {
                tape.stop(Tape.ONE_MORE);
            }
            tape.takeWord("mix");
            int first = takeKind();
            tape.takeWord("with");
            int second = takeKind();
            tape.takeWord("gives");
            int gift = takeGift();
            tape.takeSign();
            made.add(first, second, gift);
        }

        private int takeKind() {
            return tape.skipWord("any") ? Law.ANY : takeLetterOrRest();
        }

        private int takeGift() {
            if (tape.skipWord("first")) {
                return Law.FIRST;
            }
            return tape.skipWord("second") ? Law.SECOND : takeLetterOrRest();
        }

        private int takeLetterOrRest() {
            if (tape.skipWord("rest")) {
                return REST;
            }
            if (!tape.isWordUpTo(1)) {
                tape.stop(Tape.MISPLACED);
            }
            if (tape.hasFault()) {
                return REST;
            }
            int letter = tape.letterAt(0);
            tape.next();
            return letter;
        }
    }

    /**
     * Finds the shortest row in which all parts stand; a part that stands in another one never matters. A state is
     * the set of parts that are used and the last of them; the row is told letter by letter, with all states at once
     * that the letters so far can have come to, so that no order is tried twice.
     */
    private static final class Merger {
        private static final int STATES = MERGED_JARS << MERGED_JARS;

        private final Row[] parts = new Row[MERGED_JARS];
        private final int[] overlaps = new int[MERGED_JARS * MERGED_JARS];
        private final int[] rests = new int[STATES];
        private final boolean[] isOpen = new boolean[STATES];
        private int[] open = new int[STATES];
        private int[] spare = new int[STATES];
        private int openCount;
        private int count;
        final Row best = new Row(new int[MERGED_JARS * JAR_ROOM]);

        Merger() {
            for (int part = 0; part < MERGED_JARS; part++) {
                parts[part] = best;
            }
        }

        void clear() {
            count = 0;
        }

        void add(Row row) {
            for (int part = 0; part < count; part++) {
                if (row.standsIn(parts[part])) {
                    return;
                }
            }
            int kept = 0;
            for (int part = 0; part < count; part++) {
                if (!parts[part].standsIn(row)) {
                    parts[kept] = parts[part];
                    kept++;
                }
            }
            if (kept < MERGED_JARS && row.size > 0) {
                parts[kept] = row;
                kept++;
            }
            count = kept;
        }

        void mergeAll() {
            measureOverlaps();
            measureRests();
            int length = openFirsts();
            best.clear();
            for (int left = length; left > 0; left--) {
                int letter = leastLetter(left);
                best.add(letter);
                follow(letter, left);
            }
        }

        private void measureOverlaps() {
            for (int a = 0; a < count; a++) {
                for (int b = 0; b < count; b++) {
                    overlaps[a * MERGED_JARS + b] = a == b ? 0 : parts[a].overlap(parts[b]);
                }
            }
        }

        /** How many letters at least must follow behind a state. */
        private void measureRests() {
            int all = (1 << count) - 1;
            for (int used = all; used > 0; used--) {
                for (int last = 0; last < count; last++) {
                    int least = used == all ? 0 : FAR_AWAY;
                    for (int next = 0; next < count; next++) {
                        if (isIn(used, last) && !isIn(used, next)) {
                            least = Math.min(least, restWith(used, last, next));
                        }
                    }
                    rests[used * MERGED_JARS + last] = least;
                }
            }
        }

        private int restWith(int used, int last, int next) {
            return parts[next].size - overlaps[last * MERGED_JARS + next] + rests[stateWith(used, next)];
        }

        private static int stateWith(int used, int next) {
            return (used | 1 << next) * MERGED_JARS + next;
        }

        private int openFirsts() {
            int least = count == 0 ? 0 : FAR_AWAY;
            for (int first = 0; first < count; first++) {
                least = Math.min(least, parts[first].size + rests[stateWith(0, first)]);
            }
            openCount = 0;
            for (int first = 0; first < count; first++) {
                if (parts[first].size + rests[stateWith(0, first)] == least) {
                    addOpen(stateWith(0, first));
                }
            }
            return least;
        }

        private void addOpen(int state) {
            if (!isOpen[state] && openCount < STATES) {
                isOpen[state] = true;
                open[openCount] = state;
                openCount++;
            }
        }

        // all that is left but what must follow behind the last part is the end of that part
        private int placeIn(int state, int left) {
            return parts[state % MERGED_JARS].size + rests[state] - left;
        }

        private int letterOf(int state, int left) {
            return parts[state % MERGED_JARS].at(placeIn(state, left));
        }

        private int leastLetter(int left) {
            int least = LETTERS;
            for (int k = 0; k < openCount; k++) {
                least = Math.min(least, letterOf(open[k], left));
            }
            return least;
        }

        private void follow(int letter, int left) {
            int[] before = open;
            int beforeCount = openCount;
            open = spare;
            spare = before;
            openCount = 0;
            for (int k = 0; k < beforeCount; k++) {
                isOpen[before[k]] = false;
            }
            for (int k = 0; k < beforeCount; k++) {
                int state = before[k];
                if (letterOf(state, left) == letter) {
                    if (placeIn(state, left) + 1 < parts[state % MERGED_JARS].size) {
                        addOpen(state);
                    } else {
                        addNexts(state);
                    }
                }
            }
        }

        private void addNexts(int state) {
            int used = state / MERGED_JARS;
            for (int next = 0; next < count; next++) {
                if (!isIn(used, next) && restWith(used, state % MERGED_JARS, next) == rests[state]) {
                    addOpen(stateWith(used, next));
                }
            }
        }
    }

    /** Finds the best orders of jars, by what is best behind each set that has been used. */
    private static final class Planner {
        private final int[] links = new int[THINGS];
        private final int[] lengths = new int[THINGS << THINGS];
        private final int[] gains = new int[1 << THINGS];
        final Row chainOrder = new Row(new int[THINGS]);
        final Row shelfOrder = new Row(new int[THINGS]);

        void link(int jar, int followers) {
            if (jar >= 0 && jar < THINGS) {
                links[jar] = followers;
            }
        }

        void findChain(int count) {
            int jars = Math.min(count, THINGS);
            for (int used = (1 << jars) - 1; used > 0; used--) {
                for (int last = 0; last < jars; last++) {
                    if (isIn(used, last)) {
                        int next = bestLink(used, links[last]);
                        lengths[used * THINGS + last] = 1 + (next == NONE ? 0 : lengthWith(used, next));
                    }
                }
            }
            chainOrder.clear();
            int used = 0;
            int next = bestLink(used, (1 << jars) - 1);
            for (int step = 0; step < jars && next != NONE; step++) {
                chainOrder.add(next);
                used |= 1 << next;
                next = bestLink(used, links[next]);
            }
        }

        private int bestLink(int used, int followers) {
            int open = followers & ~used;
            int best = NONE;
            int most = 0;
            for (int next = 0; open != 0 && next < THINGS; next++) {
                if (isIn(open, next) && lengthWith(used, next) > most) {
                    most = lengthWith(used, next);
                    best = next;
                }
            }
            return best;
        }

        private int lengthWith(int used, int next) {
            return lengths[(used | 1 << next) * THINGS + next];
        }

        int findShelf(Shop shop, int today) {
            int all = shop.filledJars();
            for (int opened = all; opened >= 0; opened--) {
                if ((opened & ~all) == 0) {
                    int next = bestOpening(shop, today, opened, all);
                    gains[opened] = next == NONE ? 0 : gainWith(shop, today, opened, next);
                }
            }
            shelfOrder.clear();
            int opened = 0;
            for (int step = 0; step < THINGS && opened != all; step++) {
                int next = bestOpening(shop, today, opened, all);
                if (next != NONE) {
                    shelfOrder.add(next);
                    opened |= 1 << next;
                }
            }
            return gains[0];
        }

        private int bestOpening(Shop shop, int today, int opened, int all) {
            int best = NONE;
            int most = NONE;
            for (int jar = 0; jar < shop.jarCount; jar++) {
                if (isIn(all & ~opened, jar)) {
                    int gain = gainWith(shop, today, opened, jar);
                    if (gain > most) {
                        most = gain;
                        best = jar;
                    }
                }
            }
            return best;
        }

        private int gainWith(Shop shop, int today, int opened, int jar) {
            int left = shop.jars[jar].leftOn(today + Integer.bitCount(opened));
            return shop.jars[jar].worth * left + gains[opened | 1 << jar];
        }
    }
}
