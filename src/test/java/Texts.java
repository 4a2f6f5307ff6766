/** Brings texts to an object's tape. */
final class Texts {
    /** Two sounds; jars that leak from the head, from the tail, by turns, and an EMPTY one that never does. */
    static final String BELLS =
            "sound oath ringabell;sound joy gable;jar ja size 5 leaks 2 head costs 3;"
            + "jar jb size 4 leaks 3 tail costs 2 worth 2;jar jc size 6 leaks 1 costs 9 breaks 8;"
            + "jar jd size 3 leaks 0 costs 1;fill ja of oath from 0 on 2;fill jb of oath from 3 on 0;"
            + "fill jc of joy from 0 on 1;";

    private Texts() {
    }

    /** Feeds a text; behind its end blanks make up the twenty. */
    static void feed(EchoJars x, String text) {
        for (int at = 0; at < text.length(); at += 20) {
            int[] v = new int[5];
            for (int k = 0; k < 20; k++) {
                int sign = at + k < text.length() ? text.charAt(at + k) : ' ';
                v[k / 4] = v[k / 4] << 8 | sign & 255;
            }
            x.feed(v[0], v[1], v[2], v[3], v[4]);
        }
    }

    static int shop(EchoJars x, String text) {
        feed(x, text);
        return x.shop(text.length());
    }

    static int law(EchoJars x, String text) {
        feed(x, text);
        return x.law(text.length());
    }

    static EchoJars opened(String text) {
        EchoJars x = new EchoJars();
        Check.is("taken: " + text, shop(x, text) >= 0);
        return x;
    }

    static int letter(char sign) {
        return sign == '.' ? 0 : sign - 'a' + 1;
    }

    /** A TRAY of 16 bits with a row: small letters, a dot for a REST. */
    static void lay(EchoJars x, int tray, String row) {
        x.tray(tray, 1, row.length());
        for (int k = 0; k < row.length(); k++) {
            x.write(tray, k, letter(row.charAt(k)));
        }
    }

    static String told(EchoJars x, int tray, int many) {
        StringBuilder row = new StringBuilder();
        for (int k = 0; k < many; k++) {
            row.append(sign(x.read(tray, k)));
        }
        return row.toString();
    }

    static String heard(EchoJars x, int jar) {
        StringBuilder row = new StringBuilder();
        int many = x.heard(jar);
        for (int k = 0; k < many; k++) {
            row.append(sign(x.heardAt(jar, k)));
        }
        return row.toString();
    }

    static String merged(EchoJars x, int jars) {
        StringBuilder row = new StringBuilder();
        int many = x.merged(jars);
        for (int k = 0; k < many; k++) {
            row.append(sign(x.mergedAt(k)));
        }
        return row.toString();
    }

    private static char sign(long letter) {
        return letter == 0 ? '.' : (char) ('a' + letter - 1);
    }

    static void row(String what, String got, String due) {
        Check.is(what + " told " + got + ", due is " + due, got.equals(due));
    }
}
