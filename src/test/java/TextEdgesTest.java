/** The edges that 'Terms' and promises 9 to 16 name of the tape, SHOP, LAW and FAULTS: a sentence a method. */
public final class TextEdgesTest {
    private static final String ONE = "sound s abc;jar j size 2 leaks 0;";
    private static final String[] KEPT = {"sound", "jar", "size", "leaks", "head", "tail", "costs", "worth", "breaks",
        "fill", "of", "from", "on", "mix", "with", "gives", "any", "same", "rest", "first", "second"};

    private TextEdgesTest() {
    }

    public static void main(String[] args) {
        tapeHasNineHundred();
        highestByteFirst();
        shopTakesSoMany();
        emptyThenButForFive();
        shopOfAllBytes();
        lawAboveThreeHundred();
        lawEmptiesTheTape();
        oldShopStays();
        oldLawStays();
        takenShopStartsAnew();
        faultTells();
        faultIsOfTheLatest();
        signs();
        blanksBetween();
        tokensAsLongAsTheyGo();
        fiveDigits();
        noParts();
        perhapsParts();
        perhapsPartsInOrder();
        nameLengths();
        keptWords();
        lettersLengths();
        oneNameOneThing();
        toldAhead();
        numberedAsTheyStand();
        eightSounds();
        eightJars();
        numbersOfJars();
        numbersOfFills();
        fillTakesWhatThereIs();
        eachJarOnce();
        endOfTheText();
        cannotStandThere();
        leastKindOfOneToken();
        firstAlongTheText();
        noRules();
        kinds();
        whats();
        lawCannotStandThere();
        thirteenthRule();
        lawFirstAlongTheText();
        manyWhat();
        letterPlaces();
        jarWhat();
        dayNumbers();
        Check.finish();
    }

    // ---- what texts lead to

    /** A text that has a FAULT: it is told, the tape is empty, and nothing else changes. */
    private static void faulty(boolean isShop, String text, int kind, int place) {
        String what = (isShop ? "shop " : "law ") + text;
        EchoJars x = Edge.emptyTape();
        Texts.feed(x, text);
        Check.refused(what, x, isShop ? x.shop(text.length()) : x.law(text.length()), 10);
        Check.same(what + ": kind", x.fault(0), kind);
        Check.same(what + ": place", x.fault(1), place);
        EchoJars y = Edge.emptyTape();
        sameFault(x);
        sameFault(y);
        Check.is(what + ": all else stays", Edge.everything(x).equals(Edge.everything(y)));
    }

    // the tape is empty, so that its first byte is this one
    private static void sameFault(EchoJars x) {
        Check.same("an empty tape", x.feed(0x3f000000, 0, 0, 0, 0), 20);
        Check.refused("a FAULT like all others", x, x.law(1), 10);
    }

    private static void shopFault(String text, int kind, int place) {
        faulty(true, text, kind, place);
    }

    private static void lawFault(String text, int kind, int place) {
        faulty(false, text, kind, place);
    }

    private static EchoJars taken(String text, int jars) {
        EchoJars x = new EchoJars();
        Check.fine("shop " + text, x, Texts.shop(x, text), jars);
        Check.same("no FAULT: " + text, x.fault(0), 0);
        Check.same("no place: " + text, x.fault(1), -1);
        return x;
    }

    private static EchoJars lawTaken(String text, int rules) {
        EchoJars x = new EchoJars();
        Check.fine("law " + text, x, Texts.law(x, text), rules);
        Check.same("no FAULT: " + text, x.fault(0), 0);
        Check.same("no place: " + text, x.fault(1), -1);
        return x;
    }

    // ---- the tape

    private static int feedBlanks(EchoJars x) {
        return x.feed(0x20202020, 0x20202020, 0x20202020, 0x20202020, 0x20202020);
    }

    // Promise 9: "how many it has; NONE if there would be more than 900"
    private static void tapeHasNineHundred() {
        EchoJars x = new EchoJars();
        for (int has = 20; has <= 900; has += 20) {
            Check.same("has " + has, feedBlanks(x), has);
        }
        Check.same("no more", x.feed(0x3f3f3f3f, 0x3f3f3f3f, 0x3f3f3f3f, 0x3f3f3f3f, 0x3f3f3f3f), -1);
        Check.same("nor again", feedBlanks(x), -1);
        Check.refused("it has no 901", x, x.shop(901), 5);
        Check.fine("all of it are blanks", x, x.shop(900), 0);
        Check.same("no FAULT", x.fault(0), 0);
        Check.same("there is room again", feedBlanks(x), 20);
    }

    // Promise 9: "the highest of each int first", of bytes above 127, too
    private static void highestByteFirst() {
        String row = "abcdefghijklmnop";
        EchoJars x = new EchoJars();
        x.feed(0x736f756e, 0x64207320, 0x61626364, 0x65666768, 0x696a6b6c);
        x.feed(0x6d6e6f70, 0x3b000000, 0, 0, 0);
        Check.fine("a SOUND", x, x.shop(25), 0);
        for (int k = 0; k < 16; k++) {
            Check.fine("letter " + k, x, x.letter(0, k), Texts.letter(row.charAt(k)));
        }
        int[] places = {0, 1, 2, 3};
        for (int place : places) {
            x.feed(0x20202020, 0x20202020 ^ 0xdf << 8 * (3 - place), 0x20202020, 0x20202020, 0x20202020);
            Check.refused("byte 255", x, x.shop(20), 10);
            Check.same("its place", x.fault(1), 4 + place);
        }
        x.feed(0xff202020, 0x80202020, 0, 0, 0);
        Check.refused("byte 255 first", x, x.shop(4), 10);
        Check.same("its place", x.fault(1), 0);
        x.feed(0x20202020, 0x80202020, 0, 0, 0);
        Check.refused("byte 128", x, x.shop(8), 10);
        Check.same("its place", x.fault(1), 4);
    }

    // Promise 10: "The first n bytes of the tape": not below 0, not above what it has (5)
    private static void shopTakesSoMany() {
        Edge.refused("-1", 5, x -> x.shop(-1));
        Edge.refused("21 of 20", 5, x -> x.shop(21));
        Edge.refused("very few", 5, x -> x.shop(Integer.MIN_VALUE));
        Edge.refused("very many", 5, x -> x.shop(Integer.MAX_VALUE));
        Edge.refused("1 of none", EchoJars::new, 5, x -> x.shop(1));
        EchoJars x = new EchoJars();
        Check.fine("0 of none", x, x.shop(0), 0);
        Texts.feed(x, "sound s a;jar j size 1 leaks 0;?????????");
        Check.fine("only the first", x, x.shop(31), 1);
        Texts.feed(x, "sound s a;jar j size 1 leaks 0;?????????");
        Check.refused("one more", x, x.shop(32), 10);
        Check.same("its place", x.fault(1), 31);
        Texts.feed(x, "sound s abcdefghijklmnopqrstuvwxyz");
        Check.refused("cut within a WORD: no ; behind it", x, x.shop(12), 10);
        Check.same("its kind", x.fault(0), 2);
        Check.same("its place", x.fault(1), 12);
        Texts.feed(x, "jar j size 1 leaks 12345;");
        Check.refused("cut within a NUMBER: no ; behind it", x, x.shop(21), 10);
        Check.same("its kind", x.fault(0), 2);
        Check.same("its place", x.fault(1), 21);
        Texts.feed(x, "jar j size 1 leaks 2      ;");
        Check.refused("cut within blanks", x, x.shop(23), 10);
        Check.same("its place", x.fault(1), 23);
    }

    // Promise 10: "the tape (which is empty then, but for 5)"
    private static void emptyThenButForFive() {
        EchoJars x = new EchoJars();
        feedBlanks(x);
        Check.refused("5", x, x.shop(21), 5);
        Check.same("not empty", feedBlanks(x), 40);
        Check.fine("a part of it", x, x.shop(3), 0);
        Check.same("empty", feedBlanks(x), 20);
        Check.fine("none of it", x, x.shop(0), 0);
        Check.same("empty", x.feed(0x3f3f3f3f, 0, 0, 0, 0), 20);
        Check.refused("a FAULT", x, x.shop(20), 10);
        Check.same("empty", feedBlanks(x), 20);
    }

    // Terms: "A SHOP is a TEXT of at most 900 bytes"
    private static void shopOfAllBytes() {
        String last = "jar j size 1 leaks 0;";
        taken(" ".repeat(900 - last.length()) + last, 1);
        taken("\n".repeat(900), 0);
        shopFault(" ".repeat(899) + "?", 1, 899);
        shopFault(" ".repeat(895) + "sound", 2, 900);
        shopFault(" ".repeat(888) + "jar j size 7", 2, 900);
        shopFault(" ".repeat(889) + "jar j size ", 2, 900);
    }

    // Promise 11: "5: above 300, too"
    private static void lawAboveThreeHundred() {
        EchoJars x = new EchoJars();
        String rule = "mix a with b gives c;";
        Texts.feed(x, " ".repeat(300 - rule.length()) + rule + " ".repeat(20));
        Check.refused("301", x, x.law(301), 5);
        Check.refused("320", x, x.law(320), 5);
        Check.fine("300", x, x.law(300), 1);
        Check.fine("its RULE", x, x.mixes(1, 2), 3);
        Edge.refused("-1", 5, y -> y.law(-1));
        Edge.refused("21 of 20", 5, y -> y.law(21));
        Edge.refused("very few", 5, y -> y.law(Integer.MIN_VALUE));
        Edge.refused("very many", 5, y -> y.law(Integer.MAX_VALUE));
        lawFault(" ".repeat(299) + "?", 1, 299);
    }

    // Promise 11: "Likewise the LAW": the tape is empty then, but for 5
    private static void lawEmptiesTheTape() {
        EchoJars x = new EchoJars();
        feedBlanks(x);
        Check.refused("5", x, x.law(21), 5);
        Check.same("not empty", feedBlanks(x), 40);
        Check.fine("a part of it", x, x.law(3), 0);
        Check.same("empty", feedBlanks(x), 20);
        Check.fine("none of it", x, x.law(0), 0);
        Check.same("empty", x.feed(0x3f3f3f3f, 0, 0, 0, 0), 20);
        Check.refused("a FAULT", x, x.law(20), 10);
        Check.same("empty", feedBlanks(x), 20);
    }

    // Promise 10: "10: the old one stays"; section 5: it changes "the tape, and what fault() tells"
    private static void oldShopStays() {
        shopFault("sound s abc;jar j size 2 leaks 0;fill j of s from 0 on 0;sound t ab;jar k size 1 leaks 100;", 4, 87);
        shopFault("?", 1, 0);
        shopFault("sound s abc", 2, 11);
    }

    private static void oldLawStays() {
        lawFault("mix a with b gives d;mix a with b gives e;mix", 2, 45);
        lawFault("?", 1, 0);
    }

    // Terms: "A SHOP that is taken is there in place of that ahead; it is DAY 0, there is no LAW, nobody was on the road"
    private static void takenShopStartsAnew() {
        EchoJars x = Edge.emptyTape();
        Check.fine("it broke", x, x.brokeOn(2), 1);
        Check.fine("another SHOP", x, Texts.shop(x, "jar a size 1 leaks 0;jar b size 1 leaks 0;jar c size 1 leaks 0;"), 3);
        int[] due = {0, 3, 0, 0, 3};
        for (int what = 0; what < 5; what++) {
            Check.fine("many " + what, x, x.many(what), due[what]);
        }
        Check.refused("no SOUND of that ahead", x, x.letter(0, 0), 2);
        Check.refused("no JAR of that ahead", x, x.jar(3, 0), 2);
        Check.refused("EMPTY", x, x.jar(0, 7), 8);
        Check.fine("without its COST", x, x.jar(0, 3), 0);
        Check.refused("nobody was on the road", x, x.brokeOn(2), 8);
        Check.fine("no LAW", x, x.mixes(0, 0), 0);
        Check.fine("the MARK is there", x, x.back(), 0);
    }

    // Promise 12: "what 0: the FAULT (0 without one), 1: its place (NONE without). NONE for others, and ahead of any"
    private static void faultTells() {
        for (int what : new int[] {-1, 0, 1, 2, 10, Integer.MIN_VALUE, Integer.MAX_VALUE}) {
            Check.same("ahead of any " + what, new EchoJars().fault(what), -1);
            int due = what == 0 ? 1 : what == 1 ? 3 : -1;
            Check.same("of mix? " + what, Edge.full().fault(what), due);
            EchoJars x = new EchoJars();
            x.shop(0);
            Check.same("without one " + what, x.fault(what), what == 0 ? 0 : -1);
        }
    }

    // Promise 12: "Of the latest of these with STATUS 0 or 10"
    private static void faultIsOfTheLatest() {
        EchoJars x = new EchoJars();
        x.shop(1);
        x.law(1);
        Check.same("5 is none of these", x.fault(0), -1);
        Texts.shop(x, "sound ? ");
        x.shop(99);
        x.law(99);
        Check.same("5 changes nothing", x.fault(0), 1);
        Check.same("nor the place", x.fault(1), 6);
        Texts.law(x, " mix with");
        Check.same("of the LAW", x.fault(0), 2);
        Check.same("its place", x.fault(1), 5);
        Texts.law(x, "");
        Check.same("none", x.fault(0), 0);
        Check.same("no place", x.fault(1), -1);
        Texts.shop(x, " jar");
        Check.same("of the SHOP", x.fault(0), 2);
        Check.same("its place", x.fault(1), 4);
        Texts.shop(x, "");
        Check.same("none again", x.fault(0), 0);
        Check.same("no place again", x.fault(1), -1);
    }

    // ---- TOKENS

    // Terms: "blanks (10, 32): WORDS (small letters), NUMBERS (1 to 4 digits), the SIGN ;"; "1 no TOKEN begins so"
    private static void signs() {
        for (int sign = 0; sign < 256; sign++) {
            String text = "" + (char) sign;
            if (sign == 10 || sign == 32) {
                taken(text, 0);
            } else {
                boolean isToken = sign == ';' || sign >= '0' && sign <= '9' || sign >= 'a' && sign <= 'z';
                EchoJars x = new EchoJars();
                Check.refused("sign " + sign, x, Texts.shop(x, text), 10);
                Check.same("sign " + sign + ": kind", x.fault(0), isToken ? 2 : 1);
                Check.same("sign " + sign + ": place", x.fault(1), 0);
            }
        }
    }

    // Terms: "between them blanks (10, 32)": no other sign is one
    private static void blanksBetween() {
        for (int sign = 0; sign < 256; sign++) {
            String text = "sound" + (char) sign + "s a;";
            if (sign == 10 || sign == 32) {
                taken(text, 0);
            } else {
                boolean isLetter = sign >= 'a' && sign <= 'z';
                boolean isToken = sign == ';' || sign >= '0' && sign <= '9';
                EchoJars x = new EchoJars();
                Check.refused("between " + sign, x, Texts.shop(x, text), 10);
                Check.same("between " + sign + ": kind", x.fault(0), isLetter || isToken ? 2 : 1);
                Check.same("between " + sign + ": place", x.fault(1), isLetter ? 0 : 5);
            }
        }
        taken(" \n sound \n\n s  a \n ;\n ", 0);
    }

    // Terms: "TOKENS, as long as they go"
    private static void tokensAsLongAsTheyGo() {
        shopFault("soundsa;", 2, 0);
        shopFault("sound s a;jarj size 1 leaks 0;", 2, 10);
        shopFault("jar j size 1 2 leaks 0;", 2, 13);
        taken("jar j size12leaks0;", 1);
        shopFault("sound s ab cd;", 2, 11);
    }

    // Terms: "NUMBERS (1 to 4 digits)"; "1 .. (a NUMBER of 5 digits and more: at its first)"
    private static void fiveDigits() {
        taken("jar j size 1 leaks 9;", 1);
        taken("jar j size 0001 leaks 0009;", 1);
        shopFault("jar j size 00001 leaks 9;", 1, 11);
        shopFault("jar j size 1 leaks 00000;", 1, 19);
        shopFault("jar j size 1 leaks 4294967297;", 1, 19);
        shopFault("jar j size 1 leaks 18446744073709551617;", 1, 19);
        shopFault("jar j size 12345", 1, 11);
        shopFault("jar j size 123456 leaks", 1, 11);
    }

    // ---- PARTS

    // Terms: "SHOP: {PART}": { } any number of times, none, too
    private static void noParts() {
        taken("", 0);
        taken(" ", 0);
        taken("\n \n", 0);
        taken("sound s a;", 0);
        taken("jar j size 1 leaks 0;", 1);
        shopFault(";", 2, 0);
        shopFault("sound s a;;", 2, 10);
    }

    // Terms: "[head] [tail] [costs NUMBER] [worth NUMBER] [breaks NUMBER]", each perhaps; "0 without", "1 without"
    private static void perhapsParts() {
        for (int set = 0; set < 32; set++) {
            StringBuilder text = new StringBuilder("jar j size 3 leaks 2");
            text.append((set & 1) != 0 ? " head" : "").append((set & 2) != 0 ? " tail" : "");
            text.append((set & 4) != 0 ? " costs 7" : "").append((set & 8) != 0 ? " worth 6" : "");
            text.append((set & 16) != 0 ? " breaks 5" : "").append(";");
            EchoJars x = taken(text.toString(), 1);
            int side = (set & 3) == 1 ? 0 : (set & 3) == 2 ? 1 : 2;
            int[] due = {3, 2, side, (set & 4) != 0 ? 7 : 0, (set & 8) != 0 ? 6 : 1, (set & 16) != 0 ? 5 : 0, 0};
            for (int what = 0; what < 7; what++) {
                Check.fine(text + " what " + what, x, x.jar(0, what), due[what]);
            }
        }
    }

    private static void perhapsPartsInOrder() {
        String[] perhaps = {" head", " tail", " costs 1", " worth 1", " breaks 1"};
        String ahead = "jar j size 3 leaks 2";
        for (int k = 0; k < 5; k++) {
            for (int other = 0; other <= k; other++) {
                int place = ahead.length() + perhaps[k].length() + 1;
                shopFault(ahead + perhaps[k] + perhaps[other] + ";", 2, place);
            }
        }
        shopFault("jar j leaks 2 size 3;", 2, 6);
        shopFault("jar j head size 3 leaks 2;", 2, 6);
        shopFault("jar j size 3 head leaks 2;", 2, 13);
    }

    // Terms: "NAME: a WORD of 1 to 8 letters"; "2 .. a WORD of 9 letters and more where a NAME must stand"
    private static void nameLengths() {
        taken("sound a b;jar c size 1 leaks 0;fill c of a from 0 on 0;", 1);
        taken("sound abcdefgh b;jar abcdefgi size 1 leaks 0;fill abcdefgi of abcdefgh from 0 on 0;", 1);
        shopFault("sound abcdefghi b;", 2, 6);
        shopFault("sound abcdefghijklmnopqrstuvwxyz b;", 2, 6);
        shopFault("jar abcdefghi size 1 leaks 0;", 2, 4);
        shopFault(ONE + "fill abcdefghi of s from 0 on 0;", 2, 38);
        shopFault(ONE + "fill j of abcdefghi from 0 on 0;", 2, 43);
        shopFault("sound abcdefgh b;sound abcdefghi b;", 2, 23);
        taken("sound abcdefgh b;sound abcdefg b;sound abcdefgi b;sound bcdefgh a;", 0);
    }

    // Terms: "that is none of sound, jar, size, ..": they can't stand where a NAME must
    private static void keptWords() {
        for (String word : KEPT) {
            shopFault("sound " + word + " a;", 2, 6);
            shopFault("jar " + word + " size 1 leaks 0;", 2, 4);
            shopFault(ONE + "fill " + word + " of s from 0 on 0;", 2, 38);
            shopFault(ONE + "fill j of " + word + " from 0 on 0;", 2, 43);
            taken("sound s " + word + ";", 0);
            taken("jar " + word.charAt(0) + " size 1 leaks 0;", 1);
            taken("jar x" + word + " size 1 leaks 0;", 1);
        }
        taken("sound gibes b;sound whats b;sound kind b;sound rule b;sound part b;sound name b;sound law b;", 0);
    }

    // Terms: "LETTERS: any WORD of 1 to 16 letters"; "2 .. of 17 and more where LETTERS must stand"
    private static void lettersLengths() {
        EchoJars x = taken("sound s z;sound t abcdefghijklmnop;", 0);
        Check.fine("one", x, x.letter(0, 0), 26);
        Check.refused("no other", x, x.letter(0, 1), 8);
        Check.fine("the 16th", x, x.letter(1, 15), 16);
        Check.refused("no 17th", x, x.letter(1, 16), 8);
        shopFault("sound s abcdefghijklmnopq;", 2, 8);
        shopFault("sound s abcdefghijklmnopqrstuvwxyzabcdefghijklmnopqrstuvwxyz;", 2, 8);
    }

    // Terms: "One NAME is of one thing alone"; "3 a new NAME that is taken"
    private static void oneNameOneThing() {
        shopFault("sound a b;sound a c;", 3, 16);
        shopFault("sound a b;jar a size 1 leaks 0;", 3, 14);
        shopFault("jar a size 1 leaks 0;sound a b;", 3, 27);
        shopFault("jar a size 1 leaks 0;jar a size 1 leaks 0;", 3, 25);
        shopFault("sound a x;sound b x;sound c x;sound b", 3, 36);
        taken("sound a a;sound b a;jar c size 1 leaks 0;jar d size 1 leaks 0;", 2);
        EchoJars x = taken("sound a b;", 0);
        Check.fine("a NAME of the SHOP ahead is free again", x, Texts.shop(x, "jar a size 1 leaks 0;"), 1);
        Check.refused("so is one of a SHOP with a FAULT", x, Texts.shop(x, "sound q b;?"), 10);
        Check.fine("so is one of a SHOP with a FAULT", x, Texts.shop(x, "sound q b;"), 0);
    }

    // Terms: "what a PART names must be told ahead"; "3 .. a NAME that is no such thing told ahead"
    private static void toldAhead() {
        shopFault(ONE + "fill k of s from 0 on 0;", 3, 38);
        shopFault(ONE + "fill s of s from 0 on 0;", 3, 38);
        shopFault(ONE + "fill j of t from 0 on 0;", 3, 43);
        shopFault(ONE + "fill j of j from 0 on 0;", 3, 43);
        shopFault(ONE + "fill k of s from 0 on 0;jar k size 1 leaks 0;", 3, 38);
        shopFault(ONE + "fill j of t from 0 on 0;sound t a;", 3, 43);
        shopFault("fill j of s from 0 on 0;" + ONE, 3, 5);
        shopFault(ONE + "fill jj of s from 0 on 0;", 3, 38);
        EchoJars x = taken(ONE, 1);
        Check.refused("a thing of the SHOP ahead", x, Texts.shop(x, "jar k size 1 leaks 0;fill j"), 10);
        Check.same("its kind", x.fault(0), 3);
    }

    // Terms: "All are numbered as they stand", SOUNDS and JARS each on their own
    private static void numberedAsTheyStand() {
        EchoJars x = taken("jar z size 3 leaks 0;sound y q;jar b size 4 leaks 0;sound a r;fill b of a from 0 on 5;"
                + "jar c size 5 leaks 0;fill z of y from 0 on 6;", 3);
        for (int jar = 0; jar < 3; jar++) {
            Check.fine("SIZE of JAR " + jar, x, x.jar(jar, 0), 3 + jar);
        }
        Check.fine("SOUND 0", x, x.letter(0, 0), 17);
        Check.fine("SOUND 1", x, x.letter(1, 0), 18);
        Check.fine("JAR 0 has SOUND 0", x, x.jar(0, 8), 0);
        Check.fine("JAR 1 has SOUND 1", x, x.jar(1, 8), 1);
        Check.fine("ON day 6", x, x.jar(0, 7), 6);
        Check.fine("ON day 5", x, x.jar(1, 7), 5);
        Check.refused("JAR 2 is EMPTY", x, x.jar(2, 7), 8);
    }

    private static String parts(int sounds, int jars) {
        StringBuilder text = new StringBuilder();
        for (int k = 0; k < sounds; k++) {
            text.append("sound s").append((char) ('a' + k)).append(' ').append((char) ('a' + k)).append(';');
        }
        for (int k = 0; k < jars; k++) {
            text.append("jar j").append((char) ('a' + k)).append(" size ").append(k + 1).append(" leaks 0;");
        }
        return text.toString();
    }

    // Terms: "SOUNDS, at most 8"; "6 a ninth sound (at that WORD)"
    private static void eightSounds() {
        EchoJars x = taken(parts(8, 0), 0);
        Check.fine("eight", x, x.many(0), 8);
        Check.fine("the eighth", x, x.letter(7, 0), 8);
        Check.refused("no ninth", x, x.letter(8, 0), 2);
        int end = parts(8, 0).length();
        shopFault(parts(8, 0) + "sound x a;", 6, end);
        shopFault(parts(8, 0) + " sound", 6, end + 1);
        shopFault(parts(8, 0) + "sound sa a;", 6, end);
        shopFault(parts(8, 8) + "sound ?", 6, parts(8, 8).length());
        taken(parts(8, 1), 1);
    }

    // Terms: "JARS, at most 8"; "6 a ninth jar (at that WORD)"
    private static void eightJars() {
        EchoJars x = taken(parts(0, 8), 8);
        Check.fine("the eighth", x, x.jar(7, 0), 8);
        Check.refused("no ninth", x, x.jar(8, 0), 2);
        int end = parts(0, 8).length();
        shopFault(parts(0, 8) + "jar x size 1 leaks 0;", 6, end);
        shopFault(parts(0, 8) + " jar", 6, end + 1);
        shopFault(parts(0, 8) + "jar ja", 6, end);
        shopFault(parts(0, 8) + "jars", 2, end);
        taken(parts(8, 8), 8);
        taken(parts(0, 8) + "sound s a;fill jh of s from 0 on 0;", 8);
    }

    // ---- NUMBERS

    // Terms: SIZE "(1 to 12)", LEAKS "(0 to 99)", COSTS "(0 to 99)", WORTH "(0 to 99)", BREAKS "(0 to 15)"
    private static void numbersOfJars() {
        number("jar j size ", " leaks 0;", 1, 12, 0);
        number("jar j size 1 leaks ", ";", 0, 99, 1);
        number("jar j size 1 leaks 0 costs ", ";", 0, 99, 3);
        number("jar j size 1 leaks 0 worth ", ";", 0, 99, 4);
        number("jar j size 1 leaks 0 breaks ", ";", 0, 15, 5);
    }

    private static void number(String ahead, String behind, int least, int most, int what) {
        for (int v = least; v <= most; v++) {
            EchoJars x = taken(ahead + v + behind, 1);
            Check.fine(ahead + v, x, x.jar(0, what), v);
        }
        if (least > 0) {
            shopFault(ahead + (least - 1) + behind, 4, ahead.length());
        }
        shopFault(ahead + (most + 1) + behind, 4, ahead.length());
        shopFault(ahead + 9999 + behind, 4, ahead.length());
        shopFault(ahead + 10000 + behind, 1, ahead.length());
    }

    // Terms: "from one on (0 the first; there must be such)", "ON a day (0 to 999)"; "4 .. (from where there is no LETTER, too)"
    private static void numbersOfFills() {
        for (int from = 0; from < 3; from++) {
            EchoJars x = taken(ONE + "fill j of s from " + from + " on 0;", 1);
            Check.fine("from " + from, x, x.heardAt(0, 0), 1 + from);
        }
        shopFault(ONE + "fill j of s from 3 on 0;", 4, 50);
        shopFault(ONE + "fill j of s from 9999 on 0;", 4, 50);
        shopFault(ONE + "fill j of s from 10000 on 0;", 1, 50);
        taken("sound s abcdefghijklmnop;jar j size 1 leaks 0;fill j of s from 15 on 0;", 1);
        shopFault("sound s abcdefghijklmnop;jar j size 1 leaks 0;fill j of s from 16 on 0;", 4, 63);
        for (int day : new int[] {0, 1, 998, 999}) {
            EchoJars x = taken(ONE + "fill j of s from 0 on " + day + ";", 1);
            Check.fine("ON " + day, x, x.jar(0, 7), day);
        }
        shopFault(ONE + "fill j of s from 0 on 1000;", 4, 55);
        shopFault(ONE + "fill j of s from 0 on 9999;", 4, 55);
        shopFault(ONE + "fill j of s from 0 on 10000;", 1, 55);
    }

    // Terms: "as many as it holds or there are"; "Others are EMPTY"
    private static void fillTakesWhatThereIs() {
        String text = "sound s abcde;jar a size 2 leaks 0;jar b size 5 leaks 0;jar c size 12 leaks 0;jar d size 3 leaks 0;"
                + "jar e size 1 leaks 0;fill a of s from 1 on 0;fill b of s from 0 on 0;fill c of s from 0 on 0;"
                + "fill d of s from 4 on 0;";
        EchoJars x = taken(text, 5);
        String[] due = {"bc", "abcde", "abcde", "e", ""};
        for (int jar = 0; jar < 5; jar++) {
            Texts.row("jar " + jar, Texts.heard(x, jar), due[jar]);
            Check.fine("filled with " + jar, x, x.jar(jar, 6), due[jar].length());
        }
        Check.fine("one is EMPTY", x, x.many(4), 1);
        x = taken("sound s abcdefghijklmnop;jar a size 12 leaks 0;fill a of s from 4 on 0;", 1);
        Texts.row("just all", Texts.heard(x, 0), "efghijklmnop");
        x = taken("sound s abcdefghijklmnop;jar a size 12 leaks 0;fill a of s from 5 on 0;", 1);
        Texts.row("one fewer", Texts.heard(x, 0), "fghijklmnop");
    }

    // Terms: "each JAR once"; "5 a JAR that was filled already (at its NAME)"
    private static void eachJarOnce() {
        String once = ONE + "fill j of s from 0 on 0;";
        shopFault(once + "fill j of s from 0 on 0;", 5, 62);
        shopFault(once + "fill j", 5, 62);
        shopFault(once + "fill j of t from 9 on 9999;", 5, 62);
        shopFault(once + "fill s", 3, 62);
        taken(once + "jar k size 1 leaks 0;fill k of s from 0 on 0;", 2);
    }

    // ---- FAULTS

    // Terms: "2 it can't stand there (the end: the text's length ..)"
    private static void endOfTheText() {
        String all = ONE + "fill j of s from 0 on 0;";
        String[] ends = {"sound", "sound s", "sound s abc", "sound s abc;jar", "sound s abc;jar j",
            "sound s abc;jar j size", "sound s abc;jar j size 2", "sound s abc;jar j size 2 leaks",
            "sound s abc;jar j size 2 leaks 0", ONE + "fill", ONE + "fill j", ONE + "fill j of", ONE + "fill j of s",
            ONE + "fill j of s from", ONE + "fill j of s from 0", ONE + "fill j of s from 0 on",
            ONE + "fill j of s from 0 on 0"};
        for (String text : ends) {
            Check.is(text, all.startsWith(text));
            shopFault(text, 2, text.length());
            shopFault(text + "\n ", 2, text.length() + 2);
        }
        for (String text : new String[] {" head", " tail", " costs", " costs 1", " worth", " worth 1", " breaks",
            " breaks 1"}) {
            shopFault("jar j size 2 leaks 0" + text, 2, 20 + text.length());
        }
        taken(all, 1);
    }

    /** In place of each token of a text another one that can't stand there: a FAULT of kind 2 at it. */
    private static void wrongTokens(boolean isShop, String ahead, String text) {
        int at = 0;
        for (String token : text.split(" ")) {
            for (String other : new String[] {"5", "xyz", ";"}) {
                if (!mayStand(token, other)) {
                    faulty(isShop, ahead + text.substring(0, at) + other, 2, ahead.length() + at);
                }
            }
            at += token.length() + 1;
        }
    }

    private static boolean mayStand(String token, String other) {
        switch (other) {
            case "5":
                return token.equals("7");
            case "xyz":
                return token.equals("name") || token.equals("letters");
            default:
                // what may be left out, or the sign itself
                return (" ; head tail costs worth breaks ").contains(" " + token + " ");
        }
    }

    // Terms: "2 it can't stand there"
    private static void cannotStandThere() {
        wrongTokens(true, "", "sound name letters ;");
        wrongTokens(true, "", "jar name size 7 leaks 7 head tail costs 7 worth 7 breaks 7 ;");
        wrongTokens(true, "sound letters abcdefgh;jar name size 7 leaks 7;", "fill name of letters from 7 on 7 ;");
        wrongTokens(true, "sound s a;", "sound name letters ;");
    }

    // Terms: "of one TOKEN the least kind"
    private static void leastKindOfOneToken() {
        shopFault("12345", 1, 0);
        shopFault("sound 12345", 1, 6);
        shopFault("sound s 12345", 1, 8);
        shopFault("sound s a 12345", 1, 10);
        shopFault("jar j 12345", 1, 6);
        shopFault("jar j size ?", 1, 11);
        shopFault("jar j size 2 leaks 12345", 1, 19);
        shopFault("jar j size 2 leaks 0 :", 1, 21);
        shopFault(ONE + "fill ?", 1, 38);
        shopFault(ONE + "fill j ?", 1, 40);
        shopFault(ONE + "fill j of ?", 1, 43);
        shopFault(ONE + "fill j of s ?", 1, 45);
        shopFault(ONE + "fill j of s from ?", 1, 50);
        shopFault(ONE + "fill j of s from 0 ?", 1, 52);
        shopFault(ONE + "fill j of s from 0 on ?", 1, 55);
        shopFault(ONE + "fill j of s from 0 on 0 ?", 1, 57);
        shopFault(parts(8, 8) + "?", 1, parts(8, 8).length());
    }

    // Terms: "FAULTS, the first along the text"
    private static void firstAlongTheText() {
        shopFault("sound sound ?", 2, 6);
        shopFault("sound s a;sound s ?", 3, 16);
        shopFault("jar j size 0 ?", 4, 11);
        shopFault(ONE + "fill j of s from 0 on 0;fill j ?", 5, 62);
        shopFault(parts(8, 0) + "sound ?", 6, parts(8, 0).length());
        shopFault("jar j size 13 leaks 100 breaks 16;", 4, 11);
        shopFault("fill k of s from 0 on 0;sound sound a;", 3, 5);
    }

    // ---- LAW

    // Terms: "The LAW .. (none at first). LAW: {RULE}"
    private static void noRules() {
        EchoJars x = lawTaken("", 0);
        Check.fine("none", x, x.many(2), 0);
        lawTaken(" \n", 0);
        lawTaken("mix a with b gives c;", 1);
        lawTaken("mix a with b gives c;mix a with b gives c;", 2);
        x = lawTaken("mix a with b gives c;", 1);
        Check.fine("in place of that ahead", x, Texts.law(x, " "), 0);
        Check.fine("no RULE", x, x.mixes(1, 2), 0);
        lawFault(";", 2, 0);
        lawFault("mix a with b gives c;;", 2, 21);
    }

    // Terms: "KIND: a WORD of one letter, or any, or rest"
    private static void kinds() {
        for (char c = 'a'; c <= 'z'; c++) {
            EchoJars x = lawTaken("mix " + c + " with " + c + " gives rest;", 1);
            Check.fine("two of " + c, x, x.mixes(Texts.letter(c), Texts.letter(c)), 0);
        }
        lawTaken("mix any with rest gives rest;mix rest with any gives rest;", 2);
        for (String word : KEPT) {
            if (!word.equals("any") && !word.equals("rest")) {
                lawFault("mix " + word + " with a gives a;", 2, 4);
                lawFault("mix a with " + word + " gives a;", 2, 11);
            }
        }
        lawFault("mix aa with a gives a;", 2, 4);
        lawFault("mix a with aa gives a;", 2, 11);
        lawFault("mix 1 with a gives a;", 2, 4);
        lawFault("mix ; with a gives a;", 2, 4);
        lawFault("mix", 2, 3);
        lawFault("mix a with", 2, 10);
    }

    // Terms: "WHAT: a WORD of one letter, or rest, or first, or second"
    private static void whats() {
        for (char c = 'a'; c <= 'z'; c++) {
            EchoJars x = lawTaken("mix a with b gives " + c + ";", 1);
            Check.fine("gives " + c, x, x.mixes(1, 2), Texts.letter(c));
        }
        String[] others = {"rest", "first", "second"};
        for (int k = 0; k < 3; k++) {
            EchoJars x = lawTaken("mix a with b gives " + others[k] + ";", 1);
            Check.fine("gives " + others[k], x, x.mixes(1, 2), k);
        }
        for (String word : KEPT) {
            if (!word.equals("rest") && !word.equals("first") && !word.equals("second")) {
                lawFault("mix a with b gives " + word + ";", 2, 19);
            }
        }
        lawFault("mix a with b gives aa;", 2, 19);
        lawFault("mix a with b gives 1;", 2, 19);
        lawFault("mix a with b gives;", 2, 18);
        lawFault("mix a with b gives", 2, 18);
    }

    // Terms: "FAULTS of it: 1, 2 as above"
    private static void lawCannotStandThere() {
        String rule = "mix a with b gives c ;";
        wrongTokens(false, "", rule);
        wrongTokens(false, "mix a with b gives c;", rule);
        int at = 0;
        for (String token : rule.split(" ")) {
            lawFault(rule.substring(0, at) + "12345", 1, at);
            lawFault(rule.substring(0, at) + "? mix", 1, at);
            at += token.length() + 1;
            if (at < rule.length()) {
                lawFault(rule.substring(0, at), 2, at);
            }
        }
        lawFault("mix a with b gives c d;", 2, 21);
        lawFault("sound s a;", 2, 0);
    }

    // Terms: "6 a 13th RULE (at its mix)"
    private static void thirteenthRule() {
        StringBuilder twelve = new StringBuilder();
        for (int k = 0; k < 12; k++) {
            twelve.append("mix a with ").append((char) ('a' + k)).append(" gives ").append((char) ('z' - k)).append(";");
        }
        EchoJars x = lawTaken(twelve.toString(), 12);
        for (int k = 0; k < 12; k++) {
            Check.fine("RULE " + k, x, x.mixes(1, 1 + k), 26 - k);
        }
        lawFault(twelve + "mix a with b gives c;", 6, twelve.length());
        lawFault(twelve + " mix", 6, twelve.length() + 1);
        lawFault(twelve + "mix ?", 6, twelve.length());
        lawFault(twelve + "mixt", 2, twelve.length());
        lawFault(twelve + "?", 1, twelve.length());
        lawTaken(twelve + " \n", 12);
    }

    private static void lawFirstAlongTheText() {
        lawFault("mix aa with ?", 2, 4);
        lawFault("mix a ? aa", 1, 6);
        lawFault("mix a with b gives any ?", 2, 19);
    }

    // ---- what is told of them

    // Promise 13: what 0 to 4, "(5)"
    private static void manyWhat() {
        int[] due = {3, 4, 3, 4, 1};
        for (int what = 0; what < 5; what++) {
            int asked = what;
            Edge.asked("many " + what, due[what], x -> x.many(asked));
        }
        for (int what : new int[] {-1, 5, Integer.MIN_VALUE, Integer.MAX_VALUE}) {
            Edge.refused("many " + what, 5, x -> x.many(what));
        }
    }

    // Promise 14: "(2; 8: none such)"
    private static void letterPlaces() {
        Edge.asked("the first", 18, x -> x.letter(0, 0));
        Edge.asked("the last", 12, x -> x.letter(0, 8));
        for (int k : new int[] {-1, 9, Integer.MIN_VALUE, Integer.MAX_VALUE}) {
            Edge.refused("letter " + k, 8, x -> x.letter(0, k));
        }
        for (int sound : new int[] {-1, 3, 8, Integer.MIN_VALUE, Integer.MAX_VALUE}) {
            Edge.refused("letter of " + sound, 2, x -> x.letter(sound, 0));
            Edge.refused("2 ahead of 8", 2, x -> x.letter(sound, 99));
        }
    }

    // Promise 15: "(0: EMPTY)", "(8: EMPTY)", "(2; 5)"
    private static void jarWhat() {
        int[][] due = {{5, 2, 0, 3, 1, 0, 5, 2, 0}, {4, 3, 1, 2, 2, 0, 4, 0, 0}, {6, 1, 2, 9, 1, 8, 5, 1, 1},
            {3, 0, 2, 1, 1, 0, 0}};
        for (int jar = 0; jar < 4; jar++) {
            for (int what = 0; what < due[jar].length; what++) {
                int a = jar;
                int b = what;
                Edge.asked("jar " + jar + " what " + what, due[jar][what], x -> x.jar(a, b));
            }
        }
        Edge.refused("ON of an EMPTY one", 8, x -> x.jar(3, 7));
        Edge.refused("SOUND of an EMPTY one", 8, x -> x.jar(3, 8));
        for (int what : new int[] {-1, 9, Integer.MIN_VALUE, Integer.MAX_VALUE}) {
            Edge.refused("what " + what, 5, x -> x.jar(0, what));
            Edge.refused("what " + what + " of an EMPTY one: 5 ahead of 8", 5, x -> x.jar(3, what));
        }
        for (int jar : new int[] {-1, 4, 8, Integer.MIN_VALUE, Integer.MAX_VALUE}) {
            Edge.refused("jar " + jar, 2, x -> x.jar(jar, 0));
            Edge.refused("2 ahead of 5", 2, x -> x.jar(jar, 9));
        }
    }

    // Promise 16: "(0 to 9,999) (5)"
    private static void dayNumbers() {
        for (int day : new int[] {0, 1, 9998, 9999}) {
            EchoJars x = Edge.full();
            Check.done("day " + day, x, x.day(day));
            Check.fine("day " + day, x, x.many(3), day);
        }
        for (int day : new int[] {-1, 10000, Integer.MIN_VALUE, Integer.MAX_VALUE}) {
            Edge.denied("day " + day, 5, x -> x.day(day));
        }
    }
}
