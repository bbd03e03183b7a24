import java.util.ArrayList;
import java.util.List;
import java.util.Random;

/** Each sentence under "Terms" that names a bound: the last that is within it and the first that isn't. */
public final class TermsEdgeTest extends Dues {
    public static void main(String[] args) {
        coinAndBox();
        days();
        rain();
        draws();
        cuts();
        tolls();
        rubs();
        steps();
        stepsInRing();
        takenBack();
        bytes();
        signs();
        longest();
        oneBehindTheOther();
        clauses();
        grammar();
        numbers();
        open();
        openInMixtures();
        once();
        names();
        leastFault();
        firstFault();
        bounds();
        divisions();
        choices();
        ruling();
        played();
        shares();
        balances();
        netted();
        married();
        bells();
        costs();
        best();
        rubbed();
        finish();
    }

    // ---- the head of the terms

    private static void coinAndBox() {
        sentence("THE COIN is 720720 MARKS");
        CathedralCoin coin = town(8);
        due("one too many", NONE, coin.grant(0, COIN + 1));
        for (int who = 0; who < 8; who++) {
            coin.grant(who, 90090);
        }
        due("an eighth each", 0, coin.marks(NONE));
        due("none is left", NONE, coin.grant(0, 1));
        coin.pay(3, 4, 98, 99);
        coin.pay(4, 3, 1, 98);
        int all = coin.marks(NONE);
        for (int who = 0; who < 8; who++) {
            all += coin.marks(who);
        }
        due("all MARKS", COIN, all);
        sentence("each has MARKS on THE WALL (at first 0)");
        coin = town(8);
        for (int who = 0; who < 8; who++) {
            due("marks(" + who + ")", 0, coin.marks(who));
        }
        sentence("THE BOX has all others (at first all)");
        due("at first", COIN, coin.marks(NONE));
        coin.grant(7, COIN - 1);
        due("the last MARK", 1, coin.marks(NONE));
        coin.grant(0, 1);
        due("empty", 0, coin.marks(NONE));
        coin.undo();
        coin.undo();
        due("full", COIN, coin.marks(NONE));
    }

    private static void days() {
        sentence("DAY 0 .. 999 (at first 0)");
        CathedralCoin coin = town(1);
        due("at first", 0, coin.about(1));
        for (int i = 0; i < 10; i++) {
            coin.pass(99);
        }
        due("pass(8)", 0, coin.pass(8));
        due("DAY", 998, coin.about(1));
        due("pass(2) at 998", NONE, coin.pass(2));
        due("pass(1) at 998", 0, coin.pass(1));
        due("DAY", 999, coin.about(1));
        due("pass(1) at 999", NONE, coin.pass(1));
        coin.undo();
        due("DAY behind undo", 998, coin.about(1));
        due("pass(1) once more", 0, coin.pass(1));
    }

    private static void rain() {
        sentence("RAIN (0 .. 10; at first 0)");
        CathedralCoin coin = town(1);
        due("at first", 0, coin.about(2));
        sentence("WET: a draw: X mod 10 below RAIN");
        for (int rain = 0; rain <= 10; rain++) {
            for (int seed = 0; seed < 10; seed++) {
                coin = town(1);
                coin.weather(rain, seed);
                coin.pass(1);
                due("WET by " + rain + " and " + (seed * 9 + 23), (seed * 9 + 23) % 10 < rain, coin.about(4) == 1);
            }
        }
    }

    private static void draws() {
        sentence("X: at first 23");
        due("X", 23, town(1).about(3));
        sentence("X is (X * 163 + 97) mod 30097 behind a draw");
        // seeds 17 and 18 are the last X that isn't, and the first one that is cut by 30097
        int[][] seeds = {{0, 1, 3846}, {17, 1, 28785}, {18, 1, 155}, {9999, 1, 15140},
            {7451, 3, 0}, {7451, 4, 97}, {8198, 7, 1}, {8198, 8, 260}, {6962, 2, 30096}, {6962, 3, 30031}};
        for (int[] seed : seeds) {
            CathedralCoin coin = town(1);
            coin.weather(5, seed[0]);
            coin.pass(seed[1]);
            long x = seed[0] * 9L + 23;
            for (int i = 0; i < seed[1]; i++) {
                x = (x * 163 + 97) % 30097;
            }
            due("X of " + seed[0] + " behind " + seed[1], seed[2], x);
            due("about(3) of " + seed[0] + " behind " + seed[1], seed[2], coin.about(3));
        }
        sentence("a DAY is a draw, nothing else is");
        CathedralCoin coin = town(2);
        coin.weather(10, 4);
        coin.grant(0, 100);
        coin.pay(0, 1, 1, 3);
        coin.cost(0, NONE, 60, true);
        coin.rubbed(0, NONE);
        due("X", 59, coin.about(3));
        due("WET", 0, coin.about(4));
        coin.pass(1);
        due("X", (59 * 163 + 97) % 30097, coin.about(3));
        due("WET", 1, coin.about(4));
    }

    private static void cuts() {
        sentence("MARKS times a by b, cut; if that wasn't whole, toll more go to THE BOX");
        // what one has, a, b: paid, left
        int[][] payments = {{0, 1, 99, 0, 0}, {0, 99, 99, 0, 0}, {1, 1, 1, 1, 0}, {1, 1, 2, 0, 0}, {1, 98, 99, 0, 0},
            {2, 1, 2, 1, 1}, {3, 1, 2, 1, 1}, {98, 1, 99, 0, 97}, {99, 1, 99, 1, 98}, {100, 1, 99, 1, 98},
            {197, 1, 99, 1, 195}, {198, 1, 99, 2, 196}, {COIN, 98, 99, 713440, 7280}, {COIN, 99, 99, COIN, 0},
            {COIN - 1, 98, 99, 713439, 7279}, {COIN, 1, 97, 7430, 713289}, {COIN, 96, 97, 713289, 7430}};
        for (int[] payment : payments) {
            CathedralCoin coin = town(2);
            if (payment[0] > 0) {
                coin.grant(0, payment[0]);
            }
            String call = payment[1] + " of " + payment[2] + " of " + payment[0];
            due(call, payment[3], coin.pay(0, 1, payment[1], payment[2]));
            due(call + ": marks(1)", payment[3], coin.marks(1));
            due(call + ": marks(0)", payment[4], coin.marks(0));
            due(call + ": THE BOX", COIN - payment[3] - payment[4], coin.marks(NONE));
        }
        sentence("a whole PAYMENT has no toll");
        CathedralCoin coin = town(2);
        tell(coin, "toll 7;");
        coin.by(0);
        coin.grant(0, 100);
        coin.pay(0, 1, 1, 4);
        due("marks(0)", 75, coin.marks(0));
        coin.pay(0, 1, 1, 2);
        due("marks(0) by a toll", 31, coin.marks(0));
        sentence("rest (what was cut off, of b)");
        // of 100: 1 of 3 cuts off 1, 2 of 3 cuts off 2, 1 of 99 cuts off 1, 98 of 99 cuts off 98
        int[][] rests = {{1, 3, 1}, {2, 3, 2}, {1, 99, 1}, {98, 99, 98}, {1, 2, 0}, {1, 7, 2}, {6, 7, 5}};
        for (int[] rest : rests) {
            coin = town(2);
            tell(coin, "toll if rest=" + rest[2] + "?1:0 end;");
            coin.by(0);
            coin.grant(0, 100);
            int paid = coin.pay(0, 1, rest[0], rest[1]);
            due(rest[0] + " of " + rest[1], 100 * rest[0] / rest[1], paid);
            due("its toll", rest[2] == 0 ? 0 : 1, 100 - paid - coin.marks(0));
        }
    }

    private static void tolls() {
        sentence("toll: 0 at least");
        dueToll("0", 0);
        dueToll("-1", 0);
        dueToll("-9999*9999", 0);
        dueToll("1", 1);
        sentence("toll: what is left at most");
        dueToll("66", 66);
        dueToll("67", 67);
        dueToll("68", 67);
        dueToll("9999*9999", 67);
        sentence("toll, without: 1");
        for (String law : new String[] {"", "rubs 9;", "pass 1;"}) {
            CathedralCoin coin = town(2);
            tell(coin, law);
            coin.by(0);
            coin.grant(0, 100);
            coin.pay(0, 1, 1, 3);
            due("by " + law, 66, coin.marks(0));
            coin.by(NONE);
            coin.pay(0, 1, 1, 4);
            due("by none", 49, coin.marks(0));
        }
        CathedralCoin coin = town(2);
        coin.grant(0, 1);
        coin.pay(0, 1, 1, 2);
        due("1 is what is left", 0, coin.marks(0));
        sentence("marks (what one has; of toll ahead of the PAYMENT)");
        dueToll("if marks=100?5:6 end", 5);
    }

    /** What one DAY rubs of 50 MARKS of one with 9 SLEEVES. */
    private static void dueRubs(String law, int rubs) {
        CathedralCoin coin = town(1);
        coin.folk(9);
        due("text of " + law, 0, tell(coin, law));
        coin.by(0);
        coin.grant(1, 50);
        coin.weather(10, 0);
        due("pass by " + law, rubs, coin.pass(1));
        due("marks(1) by " + law, 50 - rubs, coin.marks(1));
        due("marks(0) by " + law, 0, coin.marks(0));
        due("THE BOX by " + law, COIN - 50 + rubs, coin.marks(NONE));
    }

    private static void rubs() {
        sentence("rubs: 0 at least");
        dueRubs("rubs 0;", 0);
        dueRubs("rubs -1;", 0);
        dueRubs("rubs -9999*9999;", 0);
        dueRubs("rubs 1;", 1);
        sentence("rubs: what one has at most");
        dueRubs("rubs 49;", 49);
        dueRubs("rubs 50;", 50);
        dueRubs("rubs 51;", 50);
        dueRubs("rubs 9999*9999;", 50);
        sentence("rubs, without: 0");
        dueRubs("", 0);
        dueRubs("toll 9;", 0);
        sentence("sleeves, wet (1, 0) in rubs; DAY is one more by then; who; marks");
        dueRubs("rubs sleeves;", 9);
        dueRubs("rubs wet;", 1);
        dueRubs("rubs day;", 1);
        dueRubs("rubs who*7;", 7);
        dueRubs("rubs marks/2;", 25);
        CathedralCoin coin = town(1);
        tell(coin, "rubs if day=999?5:wet end;");
        coin.by(0);
        coin.grant(0, 100);
        for (int i = 0; i < 10; i++) {
            coin.pass(99);
        }
        due("to 998", 0, coin.pass(8));
        due("the last DAY", 5, coin.pass(1));
        sentence("then of each of the FOLK by number, the MARKS that came to THE BOX");
        coin = town(8);
        tell(coin, "rubs who+1;");
        coin.by(0);
        for (int who = 0; who < 8; who++) {
            coin.grant(who, 1 + who * 2);
        }
        due("all of 1, the half of others", 36, coin.pass(1));
        due("what one has at most: 0 1 2 .. 7", 28, coin.pass(1));
        due("there is none", 0, coin.pass(1));
    }

    private static void steps() {
        sentence("the latest 30 can be taken back, the latest first");
        for (int n : new int[] {0, 1, 2, 29, 30, 31, 32, 59, 60, 61, 89, 90, 91, 100}) {
            CathedralCoin coin = town(1);
            for (int i = 1; i <= n; i++) {
                coin.grant(0, i);
            }
            int can = Math.min(30, n);
            due("STEPS of " + n, can, coin.about(7));
            for (int i = 1; i <= can; i++) {
                due("undo " + i + " of " + n, can - i, coin.undo());
                due("marks(0)", (n - i) * (n - i + 1) / 2, coin.marks(0));
                due("STEPS", can - i, coin.about(7));
            }
            due("no more of " + n, NONE, coin.undo());
            due("marks(0) stays", (n - can) * (n - can + 1) / 2, coin.marks(0));
        }
        sentence("STEPS: granting, a PAYMENT, a DAY (each)");
        CathedralCoin coin = town(2);
        coin.grant(0, 1);
        due("granting", 1, coin.about(7));
        coin.pay(1, 0, 1, 2);
        due("a PAYMENT of nothing", 2, coin.about(7));
        coin.pass(3);
        due("DAYS", 5, coin.about(7));
        tell(coin, "grant 3 to 1;pay 1 of 3 from 1 to 0;toll 1;pass 2;");
        coin.played(0);
        due("PLAYED", 9, coin.about(7));
        coin.weather(1, 1);
        coin.folk(1);
        coin.by(0);
        coin.owes(0, 1, 1);
        coin.seen(1);
        coin.image();
        coin.back();
        due("nothing else", 9, coin.about(7));
        coin.pass(21);
        due("30", 30, coin.about(7));
        coin.pass(1);
        due("no more than 30", 30, coin.about(7));
        for (int day = 26; day >= 3; day--) {
            due("undo of a DAY", day + 3, coin.undo());
            due("DAY", day, coin.about(1));
        }
        due("undo of a PAYMENT", 5, coin.undo());
        due("undo of granting", 4, coin.undo());
        for (int day = 2; day >= 0; day--) {
            due("undo of a DAY", day + 1, coin.undo());
            due("DAY", day, coin.about(1));
        }
        due("undo of a PAYMENT", 0, coin.undo());
        due("the first is too old", NONE, coin.undo());
        due("marks(0)", 1, coin.marks(0));
    }

    /** Taken back and done again, over and over: the ring of rows goes round. */
    private static void stepsInRing() {
        sentence("the latest 30 can be taken back, done and undone by turns");
        CathedralCoin coin = town(1);
        List<Integer> had = new ArrayList<>();
        Random random = new Random(30);
        for (int i = 0; i < 200; i++) {
            if (random.nextInt(3) > 0) {
                had.add(coin.marks(0));
                coin.grant(0, 1 + random.nextInt(50));
                if (had.size() > 30) {
                    had.remove(0);
                }
            } else if (had.isEmpty()) {
                due("none", NONE, coin.undo());
            } else {
                due("undo", had.size() - 1, coin.undo());
                due("marks(0)", had.remove(had.size() - 1), coin.marks(0));
            }
        }
        while (!had.isEmpty()) {
            due("undo", had.size() - 1, coin.undo());
            due("marks(0)", had.remove(had.size() - 1), coin.marks(0));
        }
        due("none", NONE, coin.undo());
    }

    private static void takenBack() {
        sentence("MARKS, DAY, X, WET are as ahead of it");
        CathedralCoin coin = town(2);
        coin.weather(10, 3);
        coin.grant(0, 77);
        coin.pass(1);
        coin.weather(0, 5);
        coin.pass(1);
        due("WET", 0, coin.about(4));
        coin.undo();
        due("WET", 1, coin.about(4));
        due("DAY", 1, coin.about(1));
        due("X", 5 * 9 + 23, coin.about(3));
        coin.undo();
        due("WET at first", 0, coin.about(4));
        due("DAY at first", 0, coin.about(1));
        due("X", 3 * 9 + 23, coin.about(3));
        due("marks(0)", 77, coin.marks(0));
        sentence("FOLK told since have 0");
        coin = town(1);
        coin.grant(0, 100);
        for (int who = 1; who < 8; who++) {
            coin.folk(9 - who);
        }
        for (int who = 1; who < 8; who++) {
            coin.pay(0, who, 1, 10);
        }
        coin.grant(7, 1000);
        for (int i = 0; i < 8; i++) {
            coin.undo();
        }
        due("marks(0)", 100, coin.marks(0));
        due("undo of the first", 0, coin.undo());
        due("marks(0)", 0, coin.marks(0));
        for (int who = 1; who < 8; who++) {
            due("marks(" + who + ")", 0, coin.marks(who));
            due("SLEEVES stay", 9 - who, coin.about(20 + who));
        }
        due("FOLK stay", 8, coin.about(0));
    }

    // ---- II: texts

    private static void bytes() {
        sentence("TEXTS 0 .. 3");
        CathedralCoin coin = town(1);
        for (int i = 0; i < 4; i++) {
            due("text " + i, i, tell(coin, "rubs " + i + ";"));
        }
        due("the fifth", NONE, tell(coin, "rubs 4;"));
        coin.grant(0, 100);
        for (int i = 0; i < 4; i++) {
            due("its law", i, coin.cost(0, i, 1, true));
        }
        sentence("of up to 300 bytes");
        dueNoFault("");
        dueNoFault(times(300, " "));
        dueNoFault(times(300, "\n"));
        dueNoFault(times(293, " ") + "pass 1;");
        dueNoFault("pass 1;" + times(293, " "));
        dueNoFault("toll" + times(294, " ") + "1;");
        dueFault("toll 1" + times(294, " "), 1, 300);
        dueFault("toll 1" + times(293, " "), 1, 299);
        dueFault(times(300, "a"), 1, 0);
        dueFault(times(300, "9"), 1, 0);
        dueFault(times(300, "("), 1, 0);
        dueFault("toll " + times(295, "9"), 2, 5);
        dueFault("toll " + times(295, "a"), 1, 5);
        dueNoFault("toll " + times(293, "0") + "1;");
        dueFault("toll " + times(295, "0"), 1, 300);
        // as many TOKENS as can be
        coin = town(1);
        coin.grant(0, 1000);
        due("147 ones", 0, tell(coin, "rubs 1" + times(146, "+1") + ";"));
        due("come to", 147, coin.cost(0, 0, 1, true));
        dueFault("rubs 1" + times(147, "+1"), 1, 300);
    }

    /** What was read ahead of it takes no room from a text, nor does one with a FAULT. */
    private static void oneBehindTheOther() {
        sentence("each of TEXTS 0 .. 3 has up to 300 bytes");
        CathedralCoin coin = town(2);
        coin.grant(0, 1000);
        for (int i = 0; i < 4; i++) {
            due("with a FAULT", NONE, tell(coin, "rubs 1" + times(147, "+1")));
            String both = "rubs 1" + times(60, "+1") + ";toll " + i + times(70, "+1") + ";pass 1;";
            due("text " + i, i, tell(coin, i % 2 == 0 ? both : "rubs 1" + times(145, "+1") + "+9;"));
        }
        for (int i = 0; i < 4; i++) {
            due("rubs by " + i, i % 2 == 0 ? 61 : 155, coin.cost(0, i, 1, true));
        }
        coin.by(2);
        due("pay", 333, coin.pay(0, 1, 1, 3));
        due("toll by 2", 1000 - 333 - 72, coin.marks(0));
        due("played(2)", NONE, coin.played(2));
        due("behind a DAY", 1000 - 333 - 72 - 61, coin.marks(0));
    }

    private static void signs() {
        sentence("TOKENS, blanks (32, 10) aside: letters, digits, signs; 1: or is none");
        for (int sign = 0; sign < 256; sign++) {
            String one = String.valueOf((char) sign);
            boolean isBlank = sign == 32 || sign == 10;
            boolean isDigit = sign >= '0' && sign <= '9';
            boolean isLetter = sign >= 'a' && sign <= 'z' || sign >= 'A' && sign <= 'Z';
            boolean joins = one.equals("+") || one.equals("-") || one.equals("*") || one.equals("/");
            dueFault(one, isBlank ? 0 : 1, isBlank ? NONE : 0);
            if (isBlank || isDigit) {
                dueNoFault("toll 1" + one + ";");
            } else {
                dueFault("toll 1" + one + ";", 1, joins || sign == ';' ? 7 : 6);
            }
            if (isBlank) {
                dueNoFault("toll who" + one + ";");
            } else {
                dueFault("toll who" + one + ";", 1, isLetter ? 5 : joins || sign == ';' ? 9 : 8);
            }
            if (isBlank || isDigit || one.equals("-")) {
                dueNoFault("toll" + one + "1;");
            } else if (one.equals("(")) {
                dueFault("toll" + one + "1;", 1, 6);
            } else {
                dueFault("toll" + one + "1;", 1, isLetter ? 0 : 4);
            }
        }
        sentence("letters one behind the other are one TOKEN, as they stand");
        for (String word : new String[] {"Toll", "TOLL", "tolL", "tol", "tolll", "tollrubs", "t", "oll"}) {
            dueFault(word + " 1;", 1, 0);
        }
        for (String word : new String[] {"Who", "WHO", "wh", "whoo", "Marks", "mark", "Day", "days", "dayday", "iff"}) {
            dueFault("toll " + word + ";", 1, 5);
        }
        sentence("digits likewise");
        dueFault("toll 1 2;", 1, 7);
        dueNoFault("toll 12;");
        dueNoFault("pay1of2from3to4;grant5to6;pass7;");
    }

    private static void longest() {
        sentence("<= >= < > = .. (the longest)");
        for (String ask : new String[] {"<", "<=", ">", ">=", "=", "#"}) {
            dueNoFault("rubs if 1" + ask + "2?1:2 end;");
        }
        dueFault("rubs if 1< =2?1:2 end;", 1, 11);
        dueFault("rubs if 1> =2?1:2 end;", 1, 11);
        dueFault("rubs if 1=<2?1:2 end;", 1, 10);
        dueFault("rubs if 1=>2?1:2 end;", 1, 10);
        dueFault("rubs if 1==2?1:2 end;", 1, 10);
        dueFault("rubs if 1<>2?1:2 end;", 1, 10);
        dueFault("rubs if 1<<2?1:2 end;", 1, 10);
        dueFault("rubs if 1<==2?1:2 end;", 1, 11);
        dueFault("rubs if 1>==2?1:2 end;", 1, 11);
        dueFault("rubs if 1#=2?1:2 end;", 1, 10);
        dueFault("rubs if 1<", 1, 10);
        dueFault("rubs if 1<=", 1, 11);
        sentence("each sign asks what it says, below, at and above");
        String[] asks = {"<", "100", "<=", "110", ">", "001", ">=", "011", "=", "010", "#", "101"};
        for (int i = 0; i < asks.length; i += 2) {
            for (int left = 4; left <= 6; left++) {
                dueToll("if " + left + asks[i] + "5?1:0 end", asks[i + 1].charAt(left - 4) - '0');
            }
        }
    }

    private static void clauses() {
        sentence("{CLAUSE}, 24 at most; 6 the 25th CLAUSE (at its first TOKEN)");
        dueNoFault(times(23, "pass 1;"));
        dueNoFault(times(24, "pass 1;"));
        dueNoFault(times(22, "pass 1;") + "toll 1;rubs 1;");
        for (String more : new String[] {"pass 1;", "grant 1 to 1;", "pay 1 of 1 from 0 to 1;", "toll 1;", "rubs 1;",
            "pass 0;", "pass", "toll wet;", "rubs 10000;"}) {
            dueFault(times(24, "pass 1;") + more, 6, 168);
            dueFault(times(24, "pass 1;") + "\n " + more, 6, 170);
        }
        dueFault(times(23, "pass 1;") + "pass 0;pass 1;", 2, 166);
        dueFault(times(24, "pass 1;") + ";", 1, 168);
        dueFault(times(24, "pass 1;") + "5", 1, 168);
        dueFault(times(24, "pass 1;") + "x", 1, 168);
        dueFault(times(42, "pass 1;"), 6, 168);
    }

    /** Each place of each CLAUSE: the end there, and a TOKEN that can't stand there. */
    private static void grammar() {
        sentence("FAULTS at the TOKEN's first byte (of the end at the length), 1 it can't stand there");
        String[] texts = {"toll 1 ;", "rubs 1 ;", "pay 1 of 2 from 3 to 4 ;", "grant 5 to 6 ;", "pass 7 ;",
            "toll ( 1 + 2 ) * 3 / - 4 - who ;", "rubs if not 1 < 2 and 3 # 4 or 5 >= 6 ? 7 : 8 end ;"};
        for (String text : texts) {
            dueNoFault(text);
            String[] tokens = text.split(" ");
            int at = 0;
            for (int i = 0; i < tokens.length; i++) {
                if (i > 0) {
                    dueFault(text.substring(0, at), 1, at);
                    dueFault(text.substring(0, at - 1), 1, at - 1);
                }
                dueFault(text.substring(0, at) + "! " + text.substring(at), 1, at);
                dueFault(text.substring(0, at) + "foo " + text.substring(at), 1, at);
                dueFault(text.substring(0, at) + "from from " + text.substring(at), 1,
                        tokens[i].equals("from") ? at + 5 : at);
                at += tokens[i].length() + 1;
            }
        }
    }

    private static void numbers() {
        sentence("NUMBERS, 0 .. 9999; 2 above 9999");
        for (String law : new String[] {"toll ", "rubs "}) {
            for (String good : new String[] {"0", "00", "9999", "09999", "0000009999"}) {
                dueNoFault(law + good + ";");
            }
            for (String bad : new String[] {"10000", "010000", "99999", "2147483648", "4294967295", "4294967296",
                "18446744073709551616", "100000000000000000000"}) {
                dueFault(law + bad + ";", 2, 5);
                dueFault(law + "1*(2+" + bad + ");", 2, 10);
            }
        }
        sentence("2: parts 1 .. 99");
        dueNumber("pay ", 1, 99, " of 99 from 0 to 1;");
        dueNumber("pay 1 of ", 1, 99, " from 0 to 1;");
        sentence("2: FOLK 0 .. 7");
        dueNumber("pay 1 of 1 from ", 0, 7, " to 1;");
        dueNumber("pay 1 of 1 from 0 to ", 0, 7, ";");
        dueNumber("grant 1 to ", 0, 7, ";");
        sentence("2: of grant 1 .. 9999");
        dueNumber("grant ", 1, 9999, " to 0;");
        sentence("2: of pass 1 .. 99");
        dueNumber("pass ", 1, 99, ";");
    }

    private static void dueNumber(String ahead, int least, int most, String behind) {
        dueNoFault(ahead + least + behind);
        dueNoFault(ahead + most + behind);
        dueNoFault(ahead + "000" + most + behind);
        if (least > 0) {
            dueFault(ahead + (least - 1) + behind, 2, ahead.length());
        }
        dueFault(ahead + "-" + least + behind, 1, ahead.length());
        for (long more : new long[] {most + 1, 10000, 65537, 4294967297L, 4294967296L + most}) {
            dueFault(ahead + more + behind, 2, ahead.length());
        }
    }

    private static void open() {
        sentence("3 the 9th of ( not if and - (of one ONE) that are open around one another (at it)");
        dueNoFault("toll " + times(8, "(") + "1" + times(8, ")") + ";");
        dueFault("toll " + times(9, "(") + "1" + times(9, ")") + ";", 3, 13);
        dueNoFault("toll " + times(8, "-") + "1;");
        dueFault("toll " + times(9, "-") + "1;", 3, 13);
        dueNoFault("rubs " + times(8, "if 1=") + "1" + times(8, "?1:1 end") + ";");
        dueFault("rubs " + times(9, "if 1=") + "1" + times(9, "?1:1 end") + ";", 3, 45);
        dueNoFault("rubs if " + times(7, "not ") + "1=1?1:1 end;");
        dueFault("rubs if " + times(8, "not ") + "1=1?1:1 end;", 3, 36);
        sentence("3: what is closed isn't open");
        String eight = times(8, "(") + "1" + times(8, ")");
        dueNoFault("toll " + eight + "+" + eight + "*" + eight + ";rubs " + eight + ";");
        dueNoFault("toll " + times(8, "-") + "1" + times(9, "-") + "1*" + times(8, "-") + "1;");
        dueFault("toll " + times(8, "-") + "1" + times(10, "-") + "1;", 3, 23);
        dueNoFault("rubs if " + times(7, "not ") + "1=1 and " + times(7, "not ") + "1=1 or (1)=-1?(1):-1 end+(1);");
        dueFault("rubs if " + times(7, "not ") + "(1)=1?1:1 end;", 3, 36);
        dueFault("rubs if " + times(7, "not ") + "1=(1)?1:1 end;", 3, 38);
        dueNoFault("rubs if " + times(6, "not ") + "(1)=-1?1:1 end;");
        dueNoFault("rubs if 1=1?" + times(7, "(") + "1" + times(7, ")") + ":" + times(7, "-") + "1 end;");
        dueFault("rubs if 1=1?" + times(8, "(") + "1", 3, 19);
        dueFault("rubs if 1=1?1:" + times(8, "-") + "1", 3, 21);
        dueNoFault("toll 1" + times(60, "-1") + ";");
    }

    /** Random nests of all that opens: the ninth that is open has the FAULT, wherever it stands. */
    private static void openInMixtures() {
        sentence("3 the 9th of ( not if and -, in mixtures");
        String[] heads = {"(", "-", "if ", "if 1=", "if 1=1?", "if 1=1?2:", "if not ", "if 1=1 and not not ",
            "2*(", "3-1--"};
        String[] tails = {")", "", "=1?2:3 end", "?2:3 end", ":3 end", " end", "=1?2:3 end", "=1?2:3 end", ")", ""};
        Random random = new Random(9);
        for (int run = 0; run < 1500; run++) {
            StringBuilder head = new StringBuilder("rubs ");
            StringBuilder tail = new StringBuilder(";");
            int open = 0;
            int ninth = NONE;
            for (int deep = 0; deep < 9 && open < 7 + random.nextInt(4); deep++) {
                int kind = random.nextInt(heads.length);
                if (kind > 7 && head.toString().endsWith("-")) {
                    // those begin with a NUMBER, which would close the -
                    kind -= 8;
                }
                int[] places = opensOf(heads[kind]);
                for (int place : places) {
                    open++;
                    if (open == 9) {
                        ninth = head.length() + place;
                    }
                }
                head.append(heads[kind]);
                tail.insert(0, tails[kind]);
            }
            String text = head + "1" + tail;
            if (text.length() <= 300) {
                dueFault(text, ninth == NONE ? 0 : 3, ninth);
            }
        }
    }

    /** Where a head opens something that stays open behind it. */
    private static int[] opensOf(String head) {
        switch (head) {
            case "if not ":
                return new int[] {0, 3};
            case "if 1=1 and not not ":
                return new int[] {0, 11, 15};
            case "2*(":
                return new int[] {2};
            case "3-1--":
                return new int[] {4};
            default:
                return new int[] {0};
        }
    }

    private static void once() {
        sentence("4 toll, rubs for the second time (at it)");
        dueFault("toll 1;toll 2;", 4, 7);
        dueFault("rubs 1;rubs 2;", 4, 7);
        dueFault("toll 1;rubs 1;toll", 4, 14);
        dueFault("toll 1;rubs 1;\n rubs 10000;", 4, 16);
        dueFault("rubs 1;toll 1;pass 1;rubs 1;", 4, 21);
        dueNoFault("toll 1;rubs 1;");
        dueNoFault("rubs 1;pass 1;toll 1;");
        // a text has its own, whatever the others have
        CathedralCoin coin = town(1);
        due("the first", 0, tell(coin, "toll 1;"));
        due("with a FAULT", NONE, tell(coin, "rubs 1;toll;"));
        due("the second", 1, tell(coin, "toll 1;rubs 1;"));
    }

    private static void names() {
        sentence("5 a NAME that isn't of that CLAUSE (at it)");
        for (String name : new String[] {"who", "marks", "day"}) {
            dueNoFault("toll " + name + ";rubs " + name + ";");
        }
        for (String name : new String[] {"paid", "rest"}) {
            dueNoFault("toll " + name + ";");
            dueFault("rubs " + name + ";", 5, 5);
            dueFault("rubs 1+(2*" + name + ");", 5, 10);
            dueFault("toll " + name + ";rubs if " + name + "=1?1:2 end;", 5, 14 + name.length());
        }
        for (String name : new String[] {"sleeves", "wet"}) {
            dueNoFault("rubs " + name + ";");
            dueFault("toll " + name + ";", 5, 5);
            dueFault("toll 1-" + name + ";", 5, 7);
            dueFault("rubs " + name + ";toll if 1=" + name + "?1:2 end;", 5, 16 + name.length());
        }
    }

    private static void leastFault() {
        sentence("FAULTS .. of one the least");
        dueFault("10000;", 1, 0);
        dueFault("toll 1 10000;", 1, 7);
        dueFault("toll 1 wet;", 1, 7);
        dueFault("toll 1 toll 1;", 1, 7);
        dueFault("toll 1;toll toll;", 4, 7);
        dueFault("toll " + times(8, "(") + "1(1", 1, 14);
        dueFault("toll " + times(8, "(") + "1 if", 1, 15);
        dueFault("toll " + times(8, "(") + "not", 1, 13);
        dueFault("toll " + times(8, "(") + "wet", 5, 13);
        dueFault("toll " + times(8, "(") + "10000", 2, 13);
        dueFault("toll 1;" + times(23, "pass 1;") + "toll 1;", 4, 168);
        dueFault("rubs 1;" + times(23, "pass 1;") + "toll 1;", 6, 168);
        dueFault(times(24, "pass 1;") + "who", 1, 168);
        dueFault("pay 100 of 100 from 9 to 9;", 2, 4);
        dueFault("pay wet of 2 from 0 to 1;", 1, 4);
    }

    private static void firstFault() {
        sentence("FAULTS, the first as TOKENS are come to");
        dueFault("toll wet+10000;", 5, 5);
        dueFault("toll 10000+wet;", 2, 5);
        dueFault("toll wet !", 5, 5);
        dueFault("toll ! wet", 1, 5);
        dueFault("pass 100 pass", 2, 5);
        dueFault("toll 1;toll wet;", 4, 7);
        dueFault("toll wet;toll 1;", 5, 5);
        dueFault("pass 1 100;", 1, 7);
        dueFault("toll " + times(9, "(") + "!", 3, 13);
        dueFault("toll " + times(7, "(") + "!((", 1, 12);
        dueFault("pay 1 of 1 from 8 to 9;", 2, 16);
    }

    /** Whether two SUMS are worth the same. */
    private static void dueLike(String sum, String other) {
        dueToll("if " + sum + "=" + other + "?1:0 end", 1);
    }

    private static void bounds() {
        sentence("what is above 1000000 is that, at each step");
        dueLike("1000*1000", "1000*999+1000");
        dueLike("1000*1000-1", "1000*999+999");
        dueLike("1000*1000+1", "1000*1000");
        dueLike("1000*1000+1-1", "1000*999+999");
        dueLike("1001*999", "1000*999+999");
        dueLike("1001*1000", "1000*1000");
        dueLike("9999*9999", "1000*1000");
        dueLike("9999*9999/1000", "1000");
        dueLike("9999*9999*9999*9999*9999*9999", "1000*1000");
        dueLike("9999*100+100", "1000*1000");
        dueLike("9999*100+101-1", "9999*100+99");
        dueLike("1000*1000*1000*1000-1", "1000*999+999");
        dueLike("1000*1000--1", "1000*1000");
        dueLike("9999*9999-9999*9999", "0");
        dueLike("-(1000*-1001)", "1000*1000");
        sentence("(below the same less) is that, at each step");
        dueLike("-1000*1000", "-1000*999-1000");
        dueLike("-1000*1000+1", "-1000*999-999");
        dueLike("-1000*1000-1", "-1000*1000");
        dueLike("-1000*1000-1+1", "-1000*999-999");
        dueLike("-1001*1000", "-1000*1000");
        dueLike("-9999*9999/1000", "-1000");
        dueLike("9999*-9999", "-(1000*1000)");
        dueLike("-9999*9999*9999", "-1000*1000");
        dueLike("-9999*9999*-9999", "1000*1000");
        dueLike("-9999*100-101+1", "-9999*100-99");
        dueLike("0-9999*100-101", "-1000*1000");
        dueLike("-(1000*1000)-1", "-(1000*1000)");
        sentence("From the left");
        dueLike("10-3-2", "5");
        dueLike("10-3+2", "9");
        dueLike("100/7*7", "98");
        dueLike("7*100/7", "100");
        dueLike("100/7/2", "7");
        dueLike("2+3*4-5", "9");
    }

    private static void divisions() {
        sentence("/ cuts towards 0");
        String[] cuts = {"7/2", "3", "-7/2", "-3", "7/-2", "-3", "-7/-2", "3", "1/2", "0", "-1/2", "0", "1/-2", "0",
            "0/5", "0", "6/3", "2", "-6/3", "-2", "9999/9999", "1", "9998/9999", "0", "-9998/9999", "0"};
        for (int i = 0; i < cuts.length; i += 2) {
            dueLike(cuts[i], cuts[i + 1]);
        }
        sentence("by 0 it is 0");
        for (String none : new String[] {"5/0", "0/0", "-5/0", "9999*9999/0", "5/(3-3)", "5/-0", "5/(1/2)", "5/0*7"}) {
            dueLike(none, "0");
        }
        dueLike("8+5/0", "8");
    }

    private static void choices() {
        sentence("EITHER: BOTH {or BOTH}. BOTH: ASK {and ASK}. ASK: not ASK");
        String[] truth = {"1=2", "1=1"};
        for (int bits = 0; bits < 16; bits++) {
            boolean a = (bits & 1) != 0;
            boolean b = (bits & 2) != 0;
            boolean c = (bits & 4) != 0;
            boolean d = (bits & 8) != 0;
            String[] asks = {truth[a ? 1 : 0], truth[b ? 1 : 0], truth[c ? 1 : 0], truth[d ? 1 : 0]};
            dueAsk(asks[0] + " and " + asks[1] + " or " + asks[2] + " and " + asks[3], a && b || c && d);
            dueAsk(asks[0] + " or " + asks[1] + " and " + asks[2] + " or " + asks[3], a || b && c || d);
            dueAsk("not " + asks[0] + " and " + asks[1] + " or not " + asks[2], !a && b || !c);
            dueAsk("not not " + asks[0] + " or not not not " + asks[3], a || !d);
            dueAsk(asks[0] + " and " + asks[1] + " and " + asks[2] + " and " + asks[3], a && b && c && d);
            dueAsk(asks[0] + " or " + asks[1] + " or " + asks[2] + " or " + asks[3], a || b || c || d);
        }
        sentence("of if just the SUM that is chosen is worked");
        dueToll("if 1=1?5:1/0 end", 5);
        dueToll("if 1=2?1/0:6 end", 6);
        dueToll("1+if 1=1?if 1=2?3:4 end:5 end*2", 9);
    }

    private static void dueAsk(String ask, boolean holds) {
        dueToll("if " + ask + "?1:0 end", holds ? 1 : 0);
    }

    private static void ruling() {
        sentence("THE TEXT (told; at first none) rules");
        CathedralCoin coin = town(1);
        due("at first", NONE, coin.about(6));
        tell(coin, "rubs 5;");
        due("not by being told", NONE, coin.about(6));
        coin.grant(0, 100);
        due("none rules", 0, coin.pass(1));
        coin.by(0);
        due("it rules", 5, coin.pass(1));
        tell(coin, "rubs 6;");
        due("it rules yet", 5, coin.pass(1));
        tell(coin, "rubs");
        due("it rules behind a FAULT", 5, coin.pass(1));
    }

    private static void played() {
        sentence("one that can't be ends it: its number among all CLAUSES (from 0); what was done stays");
        String[] cannot = {"pay 2 of 1 from 0 to 1;", "pay 99 of 98 from 0 to 1;", "pay 1 of 1 from 0 to 0;",
            "pay 1 of 1 from 0 to 2;", "pay 1 of 1 from 2 to 0;", "grant 1 to 2;", "grant 1 to 7;", "grant 11 to 0;",
            "pass 3;", "pass 99;"};
        for (String one : cannot) {
            CathedralCoin coin = town(2);
            coin.grant(1, COIN - 20);
            for (int i = 0; i < 10; i++) {
                coin.pass(99);
            }
            coin.pass(6);
            tell(coin, "toll 3;grant 10 to 0;pass 1;" + one + "grant 1 to 1;pass 1;");
            due(one, 3, coin.played(0));
            due("marks(0)", 10, coin.marks(0));
            due("marks(1)", COIN - 20, coin.marks(1));
            due("DAY", 997, coin.about(1));
            due("once more it is the second", 1, tell(coin, one));
            due(one, 0, coin.played(1));
        }
        sentence("as by hand: the last that can be");
        String[] can = {"pay 1 of 1 from 0 to 1;", "pay 99 of 99 from 1 to 0;", "grant 10 to 0;", "pass 2;",
            "pay 1 of 99 from 0 to 1;"};
        for (String one : can) {
            CathedralCoin coin = town(2);
            coin.grant(1, COIN - 20);
            for (int i = 0; i < 10; i++) {
                coin.pass(99);
            }
            coin.pass(6);
            tell(coin, "toll 3;grant 10 to 0;pass 1;" + one);
            due(one, NONE, coin.played(0));
        }
        sentence("the highest number of a CLAUSE is 23");
        CathedralCoin coin = town(1);
        tell(coin, "toll 1;rubs 1;" + times(21, "pass 1;") + "grant 1 to 1;");
        due("the 24th", 23, coin.played(0));
        due("DAY", 21, coin.about(1));
        sentence("a TEXT without deeds is PLAYED at once");
        tell(coin, "toll 1;");
        due("laws alone", NONE, coin.played(1));
        tell(coin, "");
        due("nothing", NONE, coin.played(2));
        due("STEPS", 21, coin.about(7));
    }

    // ---- III

    private static void shares() {
        sentence("SHARE: MARKS of 720720, in lowest terms (0 by 1)");
        int[][] shares = {{1, 1, COIN}, {2, 1, 360360}, {7, 1, 102960}, {16, 1, 45045}, {17, 17, COIN}, {32, 2, 45045},
            {360360, 1, 2}, {360359, 360359, COIN}, {360361, 360361, COIN}, {COIN - 1, COIN - 1, COIN},
            {COIN - 2, 360359, 360360}, {COIN, 1, 1}, {480480, 2, 3}, {720000, 1000, 1001}};
        for (int[] share : shares) {
            CathedralCoin coin = town(2);
            coin.grant(0, share[0]);
            due("upper of " + share[0], share[1], coin.share(0, 0));
            due("lower of " + share[0], share[2], coin.share(0, 1));
            due("upper of nothing", 0, coin.share(1, 0));
            due("lower of nothing", 1, coin.share(1, 1));
            int box = COIN - share[0];
            due("of THE BOX", (long) box * coin.share(NONE, 1), (long) coin.share(NONE, 0) * COIN);
        }
        CathedralCoin coin = town(1);
        due("upper of a full box", 1, coin.share(NONE, 0));
        due("lower of a full box", 1, coin.share(NONE, 1));
        coin.grant(0, COIN);
        due("upper of an empty box", 0, coin.share(NONE, 0));
        due("lower of an empty box", 1, coin.share(NONE, 1));
    }

    private static void balances() {
        sentence("A BALANCE: what one is owed less what one owes");
        CathedralCoin coin = town(3);
        for (int i = 1; i <= 20; i++) {
            due("DEBTS (20 at most)", i, coin.owes(0, 1, COIN));
        }
        due("the 21st", NONE, coin.owes(0, 1, COIN));
        due("the lowest", 20000000 - 20 * COIN, coin.about(30));
        due("the highest", 20000000 + 20 * COIN, coin.about(31));
        due("none", 20000000, coin.about(32));
        due("one PAYMENT", 1, coin.netted(NONE, 0));
        due("of all", 20 * COIN, coin.netted(0, 2));
        due("forgotten", 0, coin.owes(1, 2, 0));
        due("from the first again", 1, coin.owes(1, 2, 1));
        due("BALANCE", 20000000 - 1, coin.about(31));
        due("of one forgotten", 20000000, coin.about(30));
    }

    private static void dueNets(CathedralCoin coin, int... nets) {
        due("PAYMENTS", nets.length / 3, coin.netted(NONE, 0));
        for (int i = 0; i < nets.length; i++) {
            due("netted(" + i / 3 + ", " + i % 3 + ")", nets[i], coin.netted(i / 3, i % 3));
        }
        for (int what = 0; what < 3; what++) {
            due("none such", -2, coin.netted(nets.length / 3, what));
        }
    }

    /** A town with these BALANCES (they come to 0), by one debtor after the other. */
    private static CathedralCoin balanced(int... balances) {
        CathedralCoin coin = town(balances.length);
        int[] left = balances.clone();
        int to = 0;
        for (int from = 0; from < left.length; from++) {
            while (left[from] < 0) {
                while (left[to] <= 0) {
                    to++;
                }
                int part = Math.min(left[to], -left[from]);
                coin.owes(from, to, part);
                left[from] += part;
                left[to] -= part;
            }
        }
        return coin;
    }

    private static void netted() {
        sentence("NETTED: those of BALANCE 0 are in none");
        dueNets(town(0));
        dueNets(town(8));
        dueNets(balanced(0, -5, 0, 0, 5, 0, 0, 0), 1, 4, 5);
        CathedralCoin coin = town(3);
        coin.owes(0, 1, 9);
        coin.owes(1, 2, 9);
        dueNets(coin, 0, 2, 9);
        coin.owes(2, 0, 9);
        dueNets(coin);
        sentence("as many sets as can be");
        dueNets(balanced(-1, 1, -2, 2, -3, 3, -4, 4), 0, 1, 1, 2, 3, 2, 4, 5, 3, 6, 7, 4);
        dueNets(balanced(-1, -2, -4, -8, -16, -32, -64, 127), 0, 1, 1, 1, 2, 3, 2, 3, 7, 3, 4, 15, 4, 5, 31, 5, 6, 63,
                6, 7, 127);
        dueNets(balanced(127, -1, -2, -4, -8, -16, -32, -64), 1, 0, 127, 2, 1, 126, 3, 2, 124, 4, 3, 120, 5, 4, 112,
                6, 5, 96, 7, 6, 64);
        // one of two and one of three; the set of the lowest comes first
        dueNets(balanced(5, -6, -2, -3, 6), 2, 0, 5, 3, 2, 3, 1, 4, 6);
        sentence("of like ones the set of the lowest is the lowest (as bits)");
        // 0 with 4 or with 5 or with 6, each would do: bit 4 is the lowest
        dueNets(balanced(-3, -3, -3, -3, 3, 3, 3, 3), 0, 4, 3, 1, 5, 3, 2, 6, 3, 3, 7, 3);
        // {0 1 2} is 7, lower than {0 3} that is 9: as many sets both ways
        dueNets(balanced(-3, 1, 2, 3, -3), 0, 1, 3, 1, 2, 2, 4, 3, 3);
        sentence("then the set of the lowest not in it");
        dueNets(balanced(-10, 10, -3, 1, 2, 3, -3), 0, 1, 10, 2, 3, 3, 3, 4, 2, 6, 5, 3);
    }

    private static void dueMates(CathedralCoin coin, int sum, int... partner) {
        due("all lower numbers", sum, coin.married(NONE));
        for (int i = 0; i < partner.length; i++) {
            due("married(" + i + ")", partner[i], coin.married(i));
        }
        due("one not told", -2, coin.married(partner.length));
    }

    /** A town whose FOLK have such parts of 720720. */
    private static CathedralCoin shared(int... marks) {
        CathedralCoin coin = town(marks.length);
        for (int who = 0; who < marks.length; who++) {
            if (marks[who] > 0) {
                coin.grant(who, marks[who]);
            }
        }
        return coin;
    }

    private static void married() {
        sentence("MARRIED: one is left over, if they are odd many");
        dueMates(town(0), 0);
        dueMates(town(1), 1, 0);
        dueMates(shared(7), 102960, 0);
        dueMates(town(2), 1, 1, 0);
        dueMates(town(7), 4, 1, 0, 3, 2, 5, 4, 6);
        dueMates(town(8), 4, 1, 0, 3, 2, 5, 4, 7, 6);
        sentence("MARRIED: itself, if it is left over: behind all others");
        // a twelfth each: a pair has a sixth, whoever is left over
        dueMates(shared(60060, 60060, 60060), 18, 1, 0, 2);
        sentence("MARRIED: of like ones the partner of the lowest is the lowest");
        dueMates(shared(90090, 90090, 90090, 90090), 8, 1, 0, 3, 2);
        dueMates(shared(90090, 90090, 90090, 90090, 90090, 90090, 90090, 90090), 16, 1, 0, 3, 2, 5, 4, 7, 6);
        sentence("MARRIED: least");
        // 1 of 720720 with 720719 is the whole
        dueMates(shared(1, 0, COIN - 1), 2, 2, 1, 0);
        dueMates(shared(0, 1, COIN - 1), 2, 0, 2, 1);
        dueMates(shared(1, COIN - 1, 0), 2, 1, 0, 2);
        // 3 of 720720 alone or by 1 and 2, 360360 by 3 and 360357: a 240240th twice, and a half
        dueMates(shared(1, 2, 3, 360357, 360357), 480482, 1, 0, 3, 2, 4);
    }

    private static void dueBell(CathedralCoin coin, int c, int... parts) {
        long all = 0;
        for (int who = 0; who < parts.length; who++) {
            due("bell(" + c + ", " + who + ")", parts[who], coin.bell(c, who));
            all += coin.bell(c, who);
        }
        due("all of it", c, all);
    }

    private static void bells() {
        sentence("A BELL of c MARKS (1 .. 720720)");
        CathedralCoin coin = shared(1, 1, 1, 0);
        due("bell(0, 0)", NONE, coin.bell(0, 0));
        dueBell(coin, 1, 1, 0, 0, 0);
        dueBell(coin, COIN, 240240, 240240, 240240, 0);
        due("bell(COIN + 1, 0)", NONE, coin.bell(COIN + 1, 0));
        sentence("BELL: one MARK each by those of whom most was cut off, of like ones the lowest first");
        dueBell(coin, 2, 1, 1, 0, 0);
        dueBell(coin, 3, 1, 1, 1, 0);
        dueBell(coin, 4, 2, 1, 1, 0);
        dueBell(shared(1, 2, 3), 1, 0, 0, 1);
        dueBell(shared(1, 2, 3), 2, 0, 1, 1);
        dueBell(shared(1, 2, 3), 4, 1, 1, 2);
        dueBell(shared(3, 2, 1), 5, 2, 2, 1);
        dueBell(shared(1, 1, 1, 1, 1, 1, 1, 1), 7, 1, 1, 1, 1, 1, 1, 1, 0);
        dueBell(shared(1, 1, 1, 1, 1, 1, 1, 1), 9, 2, 1, 1, 1, 1, 1, 1, 1);
        dueBell(shared(0, 0, 0, 0, 0, 0, 0, 1), COIN, 0, 0, 0, 0, 0, 0, 0, COIN);
        sentence("BELL: to the last MARK, of the largest");
        dueBell(shared(COIN - 1, 1), COIN, COIN - 1, 1);
        dueBell(shared(COIN - 1, 1), COIN - 1, COIN - 2, 1);
        dueBell(shared(COIN - 1, 1), 1, 1, 0);
        dueBell(shared(360360, 360360), COIN - 1, 360360, 360359);
        sentence("BELL: Asked, not done");
        coin = shared(5, 5);
        coin.bell(10, 0);
        due("marks(0)", 5, coin.marks(0));
        due("STEPS", 2, coin.about(7));
    }

    private static void costs() {
        sentence("COST of n DAYS (0 .. 60)");
        CathedralCoin coin = shared(1000, 5);
        tell(coin, "rubs if wet=1?2:day end;");
        due("of -1", -2, coin.cost(0, 0, -1, true));
        due("of 0", 0, coin.cost(0, 0, 0, true));
        due("of 1", 2, coin.cost(0, 0, 1, true));
        due("of 60", 120, coin.cost(0, 0, 60, true));
        due("of 61", -2, coin.cost(0, 0, 61, true));
        due("dry, 1 and 2 and 3", 6, coin.cost(0, 0, 3, false));
        due("dry, more than one has", 1000, coin.cost(0, 0, 60, false));
        due("no more than one has", 5, coin.cost(1, 0, 60, true));
        sentence("COST: all WET, or none: wet (1, 0)");
        tell(coin, "rubs wet+3;");
        due("wet is 1", 4, coin.cost(0, 1, 1, true));
        due("wet is 0", 3, coin.cost(0, 1, 1, false));
        sentence("COST by a TEXT (NONE: none), if it ruled");
        coin.by(0);
        due("none", 0, coin.cost(0, NONE, 60, true));
        coin.by(NONE);
        due("though none rules", 2, coin.cost(0, 0, 1, true));
        sentence("COST: the DAYS are counted on, as far as 60 of them go");
        for (int i = 0; i < 10; i++) {
            coin.pass(99);
        }
        coin.pass(9);
        due("DAY", 999, coin.about(1));
        tell(coin, "rubs day-999;");
        due("of 3", 6, coin.cost(0, 2, 3, false));
        due("of 0", 0, coin.cost(0, 2, 0, false));
    }

    private static void best() {
        sentence("BEST: of like ones the lowest");
        CathedralCoin coin = shared(10, 3);
        tell(coin, "rubs wet;");
        tell(coin, "rubs if who=1?0:2*wet end;");
        due("1 and 1, 2 and 0", 0, coin.best(1, true));
        due("4 and 3, 8 and 0", 0, coin.best(4, true));
        due("7 and 3, 10 and 0", 0, coin.best(7, true));
        due("8 and 3, 10 and 0", 1, coin.best(8, true));
        due("no DAY", 0, coin.best(0, true));
        due("dry", 0, coin.best(60, false));
        due("of 61", -2, coin.best(61, false));
        due("of -1", -2, coin.best(-1, false));
        sentence("BEST of 4 TEXTS");
        tell(coin, "rubs 0;");
        tell(coin, "rubs -1;");
        due("the lower of like ones", 2, coin.best(60, true));
        sentence("BEST: all WET, or none: wet (1, 0)");
        coin = shared(100);
        tell(coin, "rubs if wet=0?5:2 end;");
        tell(coin, "rubs if wet=1?5:2 end;");
        due("wet is 1", 0, coin.best(1, true));
        due("wet is 0", 1, coin.best(1, false));
    }

    private static void rubbed() {
        sentence("WEATHERS (bits: bit 0 the first DAY, on: WET)");
        CathedralCoin coin = shared(1000);
        tell(coin, "rubs if wet=1?day:0 end;");
        coin.by(0);
        // WET on the first and on the eighth DAY alone
        int[] seen = {999, 999, 999, 999, 999, 999, 999, 991};
        for (int i = 0; i < 8; i++) {
            due("SEEN (8 at most)", i + 1, coin.seen(seen[i]));
            due("how many", 1, coin.rubbed(0, NONE));
            due("the first", i < 7 ? 1 : 129, coin.rubbed(0, 0));
            due("no second", NONE, coin.rubbed(0, 1));
        }
        due("the ninth", -2, coin.seen(991));
        sentence("WEATHERS: how many, the i-th by number");
        coin = shared(3);
        tell(coin, "rubs wet;");
        coin.by(0);
        // from 3 to 0 by three WET DAYS, then each DAY may be either
        int[] down = {3, 2, 1, 0, 0, 0, 0, 0};
        for (int marks : down) {
            coin.seen(marks);
        }
        due("how many", 16, coin.rubbed(0, NONE));
        for (int i = 0; i < 16; i++) {
            due("the " + i + "th", 14 + 16 * i, coin.rubbed(0, i));
        }
        due("none such", NONE, coin.rubbed(0, 16));
        sentence("RUBBED: behind one DAY after the other from now on");
        coin.pass(1);
        due("it was dry", 16, coin.rubbed(0, NONE));
        coin.weather(10, 0);
        coin.pass(1);
        due("one is rubbed", 0, coin.rubbed(0, NONE));
        coin.undo();
        due("it is not", 16, coin.rubbed(0, NONE));
        sentence("WEATHERS: wet (1, 0)");
        coin = shared(100);
        tell(coin, "rubs wet+3;");
        coin.by(0);
        coin.seen(97);
        due("wet is 0", 0, coin.rubbed(0, 0));
        coin.seen(93);
        due("then it is 1", 2, coin.rubbed(0, 0));
        due("that way alone", 1, coin.rubbed(0, NONE));
        sentence("RUBBED: SEEN of more than one has is none");
        coin.seen(NONE);
        coin.seen(101);
        due("none", 0, coin.rubbed(0, NONE));
        due("the first of none", NONE, coin.rubbed(0, 0));
    }
}
