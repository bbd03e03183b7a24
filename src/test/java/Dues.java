/** What the tests by hand share: which answers are due, towns to begin with, texts told over the tape. */
abstract class Dues {
    static final int COIN = 720720;
    static final int NONE = CathedralCoin.NONE;
    static final int LOW = Integer.MIN_VALUE;
    static final int HIGH = Integer.MAX_VALUE;

    private static int wrong = 0;
    private static int looked = 0;
    private static String sentence = "";

    /** The words of the document that the next answers belong to. */
    static void sentence(String words) {
        sentence = words;
    }

    static void due(String call, long want, long got) {
        looked++;
        if (got != want) {
            wrong++;
            System.out.println(sentence + ": " + call + " answered " + got + ", due is " + want);
        }
    }

    static void due(String call, boolean want, boolean got) {
        due(call, want ? 1 : 0, got ? 1 : 0);
    }

    static void due(String call, String want, String got) {
        looked++;
        if (!want.equals(got)) {
            wrong++;
            System.out.println(sentence + ": " + call + ": " + got + ", due is " + want);
        }
    }

    /** Says how it went; the exit code is 1 if an answer wasn't as due. */
    static void finish() {
        System.out.println(wrong == 0 ? "all " + looked + " answers are as due"
                : wrong + " of " + looked + " answers are not as due");
        if (wrong != 0) {
            System.exit(1);
        }
    }

    /** A new object with so many of the FOLK, of 0, 1, 2, .. SLEEVES. */
    static CathedralCoin town(int folk) {
        CathedralCoin coin = new CathedralCoin();
        for (int i = 0; i < folk; i++) {
            coin.folk(i);
        }
        return coin;
    }

    static void tape(CathedralCoin coin, String text) {
        coin.end(0);
        for (int at = 0; at < text.length(); at += 20) {
            int[] five = new int[5];
            for (int i = 0; i < 20; i++) {
                int sign = at + i < text.length() ? text.charAt(at + i) : 0;
                five[i / 4] = five[i / 4] << 8 | sign;
            }
            coin.feed(five[0], five[1], five[2], five[3], five[4]);
        }
        coin.end(text.length());
    }

    static int tell(CathedralCoin coin, String text) {
        tape(coin, text);
        return coin.text();
    }

    static void dueFault(String text, int fault, int place) {
        CathedralCoin coin = new CathedralCoin();
        due("text of " + text, fault == 0 ? 0 : NONE, tell(coin, text));
        due("fault(0) of " + text, fault, coin.fault(0));
        due("fault(1) of " + text, place, coin.fault(1));
        due("about(10) behind " + text, 0, coin.about(10));
        due("TEXTS behind " + text, fault == 0 ? 1 : 0, coin.about(5));
    }

    static void dueNoFault(String text) {
        dueFault(text, 0, NONE);
    }

    /** What toll takes of 100 MARKS of which 1 of 3 is paid: 33 paid, 1 of 3 cut off, 67 left. */
    static void dueToll(String sum, int toll) {
        CathedralCoin coin = town(2);
        due("text of " + sum, 0, tell(coin, "toll " + sum + ";"));
        coin.by(0);
        coin.grant(0, 100);
        due("pay by " + sum, 33, coin.pay(0, 1, 1, 3));
        due("toll by " + sum, toll, 67 - coin.marks(0));
    }

    /** So many signs, one behind the other. */
    static String times(int n, String sign) {
        return sign.repeat(n);
    }
}
