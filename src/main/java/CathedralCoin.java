import java.util.Arrays;

/** A hill town with one huge coin, whose shares are chalked on a wall; ../shared/DOC.md tells all of it. */
public final class CathedralCoin {
    public static final int NONE = -1;

    private static final int OTHERS = -2;
    private static final int COIN = 720720;
    private static final int MOST_FOLK = 8;
    private static final int MOST_SLEEVES = 9;
    private static final int MOST_RAIN = 10;
    private static final int MOST_SEED = 9999;
    private static final int FIRST_X = 23;
    private static final int MOST_TEXTS = 4;
    private static final int MOST_BYTES = 300;
    private static final int FED_BYTES = 20;
    private static final int MOST_SEEN = 8;
    private static final int MOST_TOLD_DAYS = 60;
    private static final int SETS_OF_FOLK = 256;
    private static final int ABOUT_SLEEVES = 20;
    private static final int ABOUT_BALANCE = 30;
    private static final int BALANCE_LIFT = 20000000;

    private final Town town = new Town();
    private final Town kept = new Town();
    private final Tokens tokens = new Tokens();
    private final Reader reader = new Reader();
    private final Netting netting = new Netting();
    private final Marrying marrying = new Marrying();
    private final int[] tape = new int[MOST_BYTES];
    private int taped = 0;

    public CathedralCoin() {
    }

    public int folk(int sleeves) {
        if (!isWithin(sleeves, 0, MOST_SLEEVES)) {
            return NONE;
        }
        return town.welcome(sleeves);
    }

    public boolean weather(int rain, int seed) {
        if (!isWithin(rain, 0, MOST_RAIN) || !isWithin(seed, 0, MOST_SEED)) {
            return false;
        }
        town.rain = rain;
        town.x = seed * 9 + FIRST_X;
        return true;
    }

    public int feed(int a, int b, int c, int d, int e) {
        if (taped + FED_BYTES > MOST_BYTES) {
            return NONE;
        }
        putBytes(a);
        putBytes(b);
        putBytes(c);
        putBytes(d);
        putBytes(e);
        return taped;
    }

    private void putBytes(int four) {
        for (int shift = 24; shift >= 0; shift -= 8) {
            if (taped >= 0 && taped < tape.length) {
                tape[taped] = (four >>> shift) & 255;
                taped++;
            }
        }
    }

    public int end(int n) {
        if (!isWithin(n, 0, taped)) {
            return NONE;
        }
        taped = n;
        return n;
    }

    public int text() {
        if (town.textCount >= MOST_TEXTS) {
            return NONE;
        }
        tokens.scan(tape, taped);
        Text text = reader.read(tokens);
        taped = 0;
        return text == null ? NONE : town.addText(text);
    }

    public int fault(int what) {
        if (!reader.hasRead) {
            return NONE;
        }
        switch (what) {
            case 0:
                return reader.found;
            case 1:
                return reader.place;
            default:
                return NONE;
        }
    }

    public boolean by(int text) {
        if (text != NONE && !town.isText(text)) {
            return false;
        }
        town.ruling = text;
        return true;
    }

    public int grant(int who, int marks) {
        return town.give(who, marks);
    }

    public int pay(int who, int whom, int a, int b) {
        return town.handOver(who, whom, a, b);
    }

    public int pass(int days) {
        return town.letGoBy(days);
    }

    public int played(int text) {
        Text script = town.textAt(text);
        if (script == null) {
            return OTHERS;
        }
        for (int i = 0; i < script.clauses; i++) {
            if (!town.carryOut(script, i)) {
                return i;
            }
        }
        return NONE;
    }

    public int undo() {
        return town.takeBack();
    }

    public int marks(int who) {
        if (who == NONE) {
            return town.box();
        }
        return town.isFolk(who) ? town.marks[who] : OTHERS;
    }

    public int share(int who, int what) {
        int upper = marks(who);
        if (upper < 0 || !isWithin(what, 0, 1)) {
            return OTHERS;
        }
        int lower = lowerNumber(upper);
        return what == 1 ? lower : upper / (COIN / lower);
    }

    public int owes(int who, int whom, int marks) {
        if (!town.isFolk(who) || !town.isFolk(whom) || who == whom || !isWithin(marks, 0, COIN)) {
            return NONE;
        }
        return marks == 0 ? town.debts.forget() : town.debts.add(who, whom, marks);
    }

    public int netted(int i, int what) {
        netting.work(town.debts, town.folk);
        if (i == NONE) {
            return netting.payments;
        }
        if (i < 0 || i >= netting.payments || i >= MOST_FOLK) {
            return OTHERS;
        }
        switch (what) {
            case 0:
                return netting.payer[i];
            case 1:
                return netting.payee[i];
            case 2:
                return netting.amount[i];
            default:
                return OTHERS;
        }
    }

    public int married(int who) {
        if (who != NONE && !town.isFolk(who)) {
            return OTHERS;
        }
        marrying.work(town.marks, town.folk);
        return who == NONE ? marrying.together : marrying.partner[who];
    }

    public int bell(int c, int who) {
        if (!isWithin(c, 1, COIN) || !town.isFolk(who)) {
            return NONE;
        }
        return town.partOfBell(c, who);
    }

    public int cost(int who, int text, int n, boolean wet) {
        if (!town.isFolk(who) || !isWithin(n, 0, MOST_TOLD_DAYS) || text != NONE && !town.isText(text)) {
            return OTHERS;
        }
        return town.marks[who] - town.marksBehind(who, town.textAt(text), n, wet ? 1 : 0);
    }

    public int best(int n, boolean wet) {
        if (!isWithin(n, 0, MOST_TOLD_DAYS)) {
            return OTHERS;
        }
        return town.bestText(n, wet ? 1 : 0);
    }

    public int seen(int marks) {
        if (marks == NONE) {
            town.seenCount = 0;
            return 0;
        }
        if (!isWithin(marks, 0, COIN) || !isWithin(town.seenCount, 0, MOST_SEEN - 1)) {
            return OTHERS;
        }
        town.seen[town.seenCount] = marks;
        town.seenCount++;
        return town.seenCount;
    }

    public int rubbed(int who, int i) {
        if (!town.isFolk(who) || i < NONE) {
            return NONE;
        }
        return town.weathers(who, i);
    }

    public int image() {
        kept.becomeLike(town);
        return town.day;
    }

    public int back() {
        town.becomeLike(kept);
        return town.day;
    }

    public int about(int what) {
        if (what >= ABOUT_BALANCE) {
            int who = what - ABOUT_BALANCE;
            return town.isFolk(who) ? BALANCE_LIFT + town.debts.balance(who) : OTHERS;
        }
        if (what >= ABOUT_SLEEVES) {
            int who = what - ABOUT_SLEEVES;
            return town.isFolk(who) ? town.sleeves[who] : OTHERS;
        }
        return aboutAll(what);
    }

    private int aboutAll(int what) {
        switch (what) {
            case 0:
                return town.folk;
            case 1:
                return town.day;
            case 2:
                return town.rain;
            case 3:
                return town.x;
            case 4:
                return town.wet;
            case 5:
                return town.textCount;
            case 6:
                return town.ruling;
            case 7:
                return town.steps.count;
            case 8:
                return town.debts.count;
            case 9:
                return town.seenCount;
            case 10:
                return taped;
            default:
                return OTHERS;
        }
    }

    private static boolean isWithin(int value, int least, int most) {
        return value >= least && value <= most;
    }

    /** The lower number of a SHARE in lowest terms; never below 1, so that it may divide. */
    private static int lowerNumber(int marks) {
        int divisor = COIN;
        int rest = marks;
        for (int i = 0; i < 64 && rest > 0; i++) {
            int next = divisor % rest;
            divisor = rest;
            rest = next;
        }
        return divisor < 1 ? 1 : Math.max(1, COIN / divisor);
    }

    /** All that THE IMAGE keeps, and what may be done to it. */
    private static final class Town {
        private static final int LAST_DAY = 999;
        private static final int MOST_DAYS = 99;
        private static final int MOST_PARTS = 99;
        private static final int TOLL_WITHOUT = 1;

        private final Works works = new Works();
        private int folk = 0;
        private final int[] marks = new int[MOST_FOLK];
        private final int[] sleeves = new int[MOST_FOLK];
        private int day = 0;
        private int rain = 0;
        private int x = FIRST_X;
        private int wet = 0;
        private final Text[] texts = new Text[MOST_TEXTS];
        private int textCount = 0;
        private int ruling = NONE;
        private final Steps steps = new Steps();
        private final Debts debts = new Debts();
        private final int[] seen = new int[MOST_SEEN];
        private int seenCount = 0;

        void becomeLike(Town other) {
            folk = other.folk;
            day = other.day;
            rain = other.rain;
            x = other.x;
            wet = other.wet;
            textCount = other.textCount;
            ruling = other.ruling;
            seenCount = other.seenCount;
            System.arraycopy(other.marks, 0, marks, 0, MOST_FOLK);
            System.arraycopy(other.sleeves, 0, sleeves, 0, MOST_FOLK);
            System.arraycopy(other.seen, 0, seen, 0, MOST_SEEN);
            for (int i = 0; i < MOST_TEXTS; i++) {
                texts[i] = other.texts[i];
            }
            steps.becomeLike(other.steps);
            debts.becomeLike(other.debts);
        }

        boolean isFolk(int who) {
            return who >= 0 && who < folk && who < MOST_FOLK;
        }

        boolean isText(int text) {
            return text >= 0 && text < textCount && text < MOST_TEXTS;
        }

        /** The TEXT of that number, or null if there is none. */
        Text textAt(int text) {
            return isText(text) ? texts[text] : null;
        }

        int addText(Text text) {
            if (textCount < 0 || textCount >= MOST_TEXTS) {
                return NONE;
            }
            texts[textCount] = text;
            textCount++;
            return textCount - 1;
        }

        int welcome(int ofSleeves) {
            if (folk < 0 || folk >= MOST_FOLK) {
                return NONE;
            }
            marks[folk] = 0;
            sleeves[folk] = ofSleeves;
            folk++;
            return folk - 1;
        }

        int marksOfFolk() {
            int all = 0;
            for (int who = 0; who < folk && who < MOST_FOLK; who++) {
                all += marks[who];
            }
            return all;
        }

        int box() {
            return COIN - marksOfFolk();
        }

        int give(int who, int given) {
            if (!isFolk(who) || given < 1 || given > box()) {
                return NONE;
            }
            steps.keep(this);
            marks[who] += given;
            return box();
        }

        int handOver(int who, int whom, int a, int b) {
            if (!isFolk(who) || !isFolk(whom) || who == whom || a < 1 || b < a || b > MOST_PARTS) {
                return NONE;
            }
            steps.keep(this);
            int parts = marks[who] * a;
            int paid = parts / b;
            int rest = parts % b;
            int toll = rest == 0 ? 0 : toll(who, paid, rest);
            marks[who] -= paid + toll;
            marks[whom] += paid;
            return paid;
        }

        private int toll(int who, int paid, int rest) {
            int left = marks[who] - paid;
            Text text = textAt(ruling);
            if (text == null || text.toll == null) {
                return Math.min(TOLL_WITHOUT, left);
            }
            works.name(Tokens.WHO, who);
            works.name(Tokens.MARKS, marks[who]);
            works.name(Tokens.DAY, day);
            works.name(Tokens.PAID, paid);
            works.name(Tokens.REST, rest);
            return Math.max(0, Math.min(works.value(text.toll), left));
        }

        int letGoBy(int days) {
            if (days < 1 || days > MOST_DAYS || day + days > LAST_DAY) {
                return NONE;
            }
            int boxAhead = box();
            for (int i = 0; i < days; i++) {
                oneDay();
            }
            return box() - boxAhead;
        }

        private void oneDay() {
            steps.keep(this);
            day++;
            wet = x % 10 < rain ? 1 : 0;
            x = (x * 163 + 97) % 30097;
            Text text = textAt(ruling);
            for (int who = 0; who < folk && who < MOST_FOLK; who++) {
                marks[who] -= rubs(text, who, marks[who], day, wet);
            }
        }

        private int rubs(Text text, int who, int has, int onDay, int ifWet) {
            // Of nothing nothing goes, whatever the text says: its works are spared.
            if (text == null || text.rubs == null || has < 1 || !isFolk(who)) {
                return 0;
            }
            works.name(Tokens.WHO, who);
            works.name(Tokens.MARKS, has);
            works.name(Tokens.DAY, onDay);
            works.name(Tokens.SLEEVES, sleeves[who]);
            works.name(Tokens.WET, ifWet);
            return Math.max(0, Math.min(works.value(text.rubs), has));
        }

        /** Does what one CLAUSE of a script asks for: whether it can be. */
        boolean carryOut(Text script, int i) {
            switch (script.number(i, 0)) {
                case Tokens.PAY:
                    return handOver(script.number(i, 3), script.number(i, 4),
                            script.number(i, 1), script.number(i, 2)) != NONE;
                case Tokens.GRANT:
                    return give(script.number(i, 2), script.number(i, 1)) != NONE;
                case Tokens.PASS:
                    return letGoBy(script.number(i, 1)) != NONE;
                default:
                    return true;
            }
        }

        int takeBack() {
            return steps.takeBack(this) ? steps.count : NONE;
        }

        int partOfBell(int c, int who) {
            int all = marksOfFolk();
            if (all < 1 || !isFolk(who)) {
                return NONE;
            }
            long mine = (long) c * marks[who];
            long missing = c;
            int ahead = 0;
            for (int other = 0; other < folk && other < MOST_FOLK; other++) {
                long parts = (long) c * marks[other];
                missing -= parts / all;
                long more = parts % all - mine % all;
                if (more > 0 || more == 0 && other < who) {
                    ahead++;
                }
            }
            return (int) (mine / all) + (ahead < missing ? 1 : 0);
        }

        /** What one would have behind n DAYS that are all WET, or none. */
        int marksBehind(int who, Text text, int n, int allWet) {
            if (!isFolk(who)) {
                return 0;
            }
            int has = marks[who];
            for (int i = 1; i <= n; i++) {
                has -= rubs(text, who, has, day + i, allWet);
            }
            return has;
        }

        int bestText(int n, int allWet) {
            int best = NONE;
            int most = NONE;
            for (int i = 0; i < textCount && i < MOST_TEXTS; i++) {
                int together = 0;
                for (int who = 0; who < folk; who++) {
                    together += marksBehind(who, texts[i], n, allWet);
                }
                if (together > most) {
                    most = together;
                    best = i;
                }
            }
            return best;
        }

        /** How many WEATHERS fit what was SEEN (i NONE), or the i-th of them. */
        int weathers(int who, int i) {
            // Behind a DAY that fits one has what was SEEN, so each DAY is dry or WET whatever the others were.
            int canBeDry = fittingDays(who, 0);
            int canBeWet = fittingDays(who, 1);
            int all = 1 << Math.min(seenCount, MOST_SEEN);
            int found = 0;
            for (int weather = 0; weather < all; weather++) {
                int dry = all - 1 - weather;
                if ((weather & ~canBeWet) == 0 && (dry & ~canBeDry) == 0) {
                    if (found == i) {
                        return weather;
                    }
                    found++;
                }
            }
            return i == NONE ? found : NONE;
        }

        private int fittingDays(int who, int ifWet) {
            if (!isFolk(who)) {
                return 0;
            }
            int fitting = 0;
            int has = marks[who];
            Text text = textAt(ruling);
            for (int i = 0; i < seenCount && i < MOST_SEEN; i++) {
                if (has - rubs(text, who, has, day + i + 1, ifWet) == seen[i]) {
                    fitting |= 1 << i;
                }
                has = seen[i];
            }
            return fitting;
        }
    }

    /** What was ahead of each of the latest STEPS, in a ring of rows. */
    private static final class Steps {
        private static final int MOST = 30;
        private static final int ROW = MOST_FOLK + 3;

        private final int[] rows = new int[MOST * ROW];
        private int first = 0;
        private int count = 0;

        void becomeLike(Steps other) {
            first = other.first;
            count = other.count;
            System.arraycopy(other.rows, 0, rows, 0, MOST * ROW);
        }

        void keep(Town town) {
            int row = (first + count) % MOST * ROW;
            if (count < MOST) {
                count++;
            } else {
                first = (first + 1) % MOST;
            }
            if (row < 0 || row + ROW > rows.length) {
                return;
            }
            System.arraycopy(town.marks, 0, rows, row, MOST_FOLK);
            rows[row + MOST_FOLK] = town.day;
            rows[row + MOST_FOLK + 1] = town.x;
            rows[row + MOST_FOLK + 2] = town.wet;
        }

        boolean takeBack(Town town) {
            if (count < 1) {
                return false;
            }
            count--;
            int row = (first + count) % MOST * ROW;
            if (row < 0 || row + ROW > rows.length) {
                return false;
            }
            System.arraycopy(rows, row, town.marks, 0, MOST_FOLK);
            town.day = rows[row + MOST_FOLK];
            town.x = rows[row + MOST_FOLK + 1];
            town.wet = rows[row + MOST_FOLK + 2];
            return true;
        }
    }

    /** The DEBTS that were told. */
    private static final class Debts {
        private static final int MOST = 20;

        private final int[] debtor = new int[MOST];
        private final int[] owed = new int[MOST];
        private final int[] amount = new int[MOST];
        private int count = 0;

        void becomeLike(Debts other) {
            count = other.count;
            System.arraycopy(other.debtor, 0, debtor, 0, MOST);
            System.arraycopy(other.owed, 0, owed, 0, MOST);
            System.arraycopy(other.amount, 0, amount, 0, MOST);
        }

        int forget() {
            count = 0;
            return count;
        }

        int add(int who, int whom, int marks) {
            if (count < 0 || count >= MOST) {
                return NONE;
            }
            debtor[count] = who;
            owed[count] = whom;
            amount[count] = marks;
            count++;
            return count;
        }

        int balance(int who) {
            int balance = 0;
            for (int i = 0; i < count && i < MOST; i++) {
                if (owed[i] == who) {
                    balance += amount[i];
                }
                if (debtor[i] == who) {
                    balance -= amount[i];
                }
            }
            return balance;
        }
    }

    /** NETTED: who pays whom so that all BALANCES are 0. */
    private static final class Netting {
        private final int[] balance = new int[MOST_FOLK];
        private final int[] sum = new int[SETS_OF_FOLK];
        private final int[] most = new int[SETS_OF_FOLK];
        private final int[] payer = new int[MOST_FOLK];
        private final int[] payee = new int[MOST_FOLK];
        private final int[] amount = new int[MOST_FOLK];
        private int payments = 0;

        void work(Debts debts, int folk) {
            payments = 0;
            int open = 0;
            for (int who = 0; who < MOST_FOLK; who++) {
                balance[who] = who < folk ? debts.balance(who) : 0;
                if (balance[who] != 0) {
                    open |= 1 << who;
                }
            }
            countSets(open);
            for (int i = 0; i < MOST_FOLK && open != 0; i++) {
                int set = lowestSet(open);
                payAlong(set);
                open &= ~set;
            }
        }

        /**
         * The most sets into which each set falls: put in an order, a set has as many parts that come to 0
         * as it has beginnings that do, so the last one of the best order is all that has to be tried.
         */
        private void countSets(int open) {
            sum[0] = 0;
            most[0] = 0;
            for (int set = 1; set <= open && set < SETS_OF_FOLK; set++) {
                sum[set] = 0;
                most[set] = 0;
                for (int who = 0; who < MOST_FOLK; who++) {
                    if ((set >> who & 1) == 1) {
                        int others = set & ~(1 << who);
                        sum[set] = sum[others] + balance[who];
                        most[set] = Math.max(most[set], most[others]);
                    }
                }
                if (sum[set] == 0) {
                    most[set]++;
                }
            }
        }

        /** The lowest set, with the lowest one that is open, that leaves as many sets as can be. */
        private int lowestSet(int open) {
            int lowest = open & -open;
            for (int set = lowest; set < open && set < SETS_OF_FOLK; set++) {
                boolean fits = (set & ~open) == 0 && (set & lowest) != 0;
                if (fits && sum[set] == 0 && most[open & ~set] + 1 == most[open]) {
                    return set;
                }
            }
            return open;
        }

        private void payAlong(int set) {
            int carried = 0;
            int last = NONE;
            for (int who = 0; who < MOST_FOLK; who++) {
                if ((set >> who & 1) == 1) {
                    if (last != NONE) {
                        settle(last, who, carried);
                    }
                    carried += balance[who];
                    last = who;
                }
            }
        }

        private void settle(int one, int next, int balanceOfOne) {
            if (payments < 0 || payments >= MOST_FOLK) {
                return;
            }
            payer[payments] = balanceOfOne < 0 ? one : next;
            payee[payments] = balanceOfOne < 0 ? next : one;
            amount[payments] = Math.abs(balanceOfOne);
            payments++;
        }
    }

    /** MARRIED: the FOLK two and two, so that the lower numbers of their SHARES are least. */
    private static final class Marrying {
        private final int[] lower = new int[MOST_FOLK * MOST_FOLK];
        private final int[] least = new int[SETS_OF_FOLK];
        private final int[] chosen = new int[SETS_OF_FOLK];
        private final int[] partner = new int[MOST_FOLK];
        private int together = 0;

        void work(int[] marks, int folk) {
            int all = Math.max(0, Math.min(folk, MOST_FOLK));
            findLowers(marks, all);
            int everyone = (1 << all) - 1;
            least[0] = 0;
            for (int set = 1; set <= everyone && set < SETS_OF_FOLK; set++) {
                marryLowestOf(set, all);
            }
            together = least[everyone];
            int single = everyone;
            for (int one = 0; one < all; one++) {
                if ((single >> one & 1) == 1) {
                    int other = chosen[single];
                    partner[one] = other;
                    if (other >= 0 && other < MOST_FOLK) {
                        partner[other] = one;
                        single &= ~(1 << other);
                    }
                    single &= ~(1 << one);
                }
            }
        }

        private void findLowers(int[] marks, int all) {
            for (int one = 0; one < all && one < marks.length; one++) {
                lower[one * MOST_FOLK + one] = lowerNumber(marks[one]);
                for (int other = one + 1; other < all && other < marks.length; other++) {
                    lower[one * MOST_FOLK + other] = lowerNumber(marks[one] + marks[other]);
                }
            }
        }

        private void marryLowestOf(int set, int all) {
            int one = Integer.numberOfTrailingZeros(set);
            if (one >= all || one >= MOST_FOLK) {
                return;
            }
            int rest = set & ~(1 << one);
            int found = NONE;
            for (int other = one + 1; other < all; other++) {
                if ((rest >> other & 1) == 1) {
                    int sum = lower[one * MOST_FOLK + other] + least[rest & ~(1 << other)];
                    if (found == NONE || sum < least[set]) {
                        least[set] = sum;
                        found = other;
                    }
                }
            }
            // Left over comes behind all partners, so it must be better than the best of them.
            boolean isOdd = Integer.bitCount(set) % 2 == 1;
            int alone = lower[one * MOST_FOLK + one] + least[rest];
            if (isOdd && (found == NONE || alone < least[set])) {
                least[set] = alone;
                found = one;
            }
            chosen[set] = found;
        }
    }

    /** A TEXT that was read without a FAULT; it never changes, so THE IMAGE may hold the same one. */
    private static final class Text {
        private static final int ROW = 5;

        private final int[] toll;
        private final int[] rubs;
        private final int clauses;
        private final int[] rows;

        /** The works of toll and of rubs (null without), and a row for each CLAUSE: its kind, its NUMBERS. */
        Text(int[] toll, int[] rubs, int clauses, int[] rows) {
            this.toll = toll;
            this.rubs = rubs;
            this.clauses = clauses;
            this.rows = rows;
        }

        int number(int clause, int i) {
            int at = clause * ROW + i;
            return at >= 0 && at < rows.length ? rows[at] : NONE;
        }
    }

    /** Works out a SUM, that is held as a row of words: what to do, with a NUMBER or a place. */
    private static final class Works {
        private static final int KINDS = 64;
        private static final int HIGHEST = 1000000;
        private static final int MOST_VALUES = 64;

        private final int[] names = new int[KINDS];
        private final int[] values = new int[MOST_VALUES];
        private int height = 0;

        static int word(int kind, int number) {
            return number * KINDS + kind;
        }

        void name(int kind, int value) {
            if (isWithin(kind, 0, KINDS - 1)) {
                names[kind] = value;
            }
        }

        int value(int[] words) {
            height = 0;
            int at = 0;
            for (int i = 0; i < words.length && at >= 0 && at < words.length; i++) {
                int kind = words[at] % KINDS;
                int number = words[at] / KINDS;
                at++;
                if (kind == Tokens.ELSE || kind == Tokens.THEN && pop() == 0) {
                    at = number;
                } else if (kind != Tokens.THEN) {
                    work(kind, number);
                }
            }
            return pop();
        }

        private void work(int kind, int number) {
            if (kind == Tokens.NUMBER) {
                push(number);
            } else if (kind == Tokens.NAME) {
                push(isWithin(number, 0, KINDS - 1) ? names[number] : 0);
            } else if (kind == Tokens.NEGATIVE) {
                push(-pop());
            } else if (kind == Tokens.NOT) {
                push(1 - pop());
            } else {
                int right = pop();
                int left = pop();
                push(isWithin(kind, Tokens.PLUS, Tokens.BY) ? reckon(kind, left, right)
                        : isTrue(kind, left, right) ? 1 : 0);
            }
        }

        private static long reckon(int kind, long left, long right) {
            switch (kind) {
                case Tokens.PLUS:
                    return left + right;
                case Tokens.MINUS:
                    return left - right;
                case Tokens.TIMES:
                    return left * right;
                default:
                    return right == 0 ? 0 : left / right;
            }
        }

        private static boolean isTrue(int kind, int left, int right) {
            switch (kind) {
                case Tokens.LESS:
                    return left < right;
                case Tokens.AT_MOST:
                    return left <= right;
                case Tokens.MORE:
                    return left > right;
                case Tokens.AT_LEAST:
                    return left >= right;
                case Tokens.LIKE:
                    return left == right;
                case Tokens.UNLIKE:
                    return left != right;
                case Tokens.OR:
                    return left + right > 0;
                default:
                    return left + right > 1;
            }
        }

        /** Keeps a value for later, no higher and no lower than values go. */
        private void push(long value) {
            if (height >= 0 && height < MOST_VALUES) {
                values[height] = (int) (value > HIGHEST ? HIGHEST : value < -HIGHEST ? -HIGHEST : value);
                height++;
            }
        }

        private int pop() {
            if (height < 1 || height > MOST_VALUES) {
                return 0;
            }
            height--;
            return values[height];
        }
    }

    /** The TOKENS of a tape, one behind the other. */
    private static final class Tokens {
        // END is the end of the tape, BAD what is no TOKEN or no word of the language; NAME and NEGATIVE
        // stand in the works alone; STOPPED is what a reader sees behind a FAULT, so that it takes no more.
        private static final int END = 0;
        private static final int BAD = 1;
        private static final int STOPPED = 2;
        private static final int NUMBER = 3;
        private static final int NAME = 4;
        private static final int NEGATIVE = 5;
        private static final int TOLL = 10;
        private static final int RUBS = 11;
        private static final int PAY = 12;
        private static final int GRANT = 13;
        private static final int PASS = 14;
        private static final int OF = 15;
        private static final int FROM = 16;
        private static final int TO = 17;
        private static final int IF = 18;
        private static final int END_IF = 19;
        private static final int OR = 20;
        private static final int AND = 21;
        private static final int NOT = 22;
        private static final int WHO = 23;
        private static final int MARKS = 24;
        private static final int DAY = 25;
        private static final int PAID = 26;
        private static final int REST = 27;
        private static final int SLEEVES = 28;
        private static final int WET = 29;
        private static final int LESS = 40;
        private static final int AT_MOST = 41;
        private static final int MORE = 42;
        private static final int AT_LEAST = 43;
        private static final int LIKE = 44;
        private static final int UNLIKE = 45;
        private static final int PLUS = 46;
        private static final int MINUS = 47;
        private static final int TIMES = 48;
        private static final int BY = 49;
        private static final int OPEN = 50;
        private static final int CLOSE = 51;
        private static final int STOP = 52;
        private static final int THEN = 53;
        private static final int ELSE = 54;
        private static final int TOO_HIGH = 10000;
        private static final int MOST = MOST_BYTES + 1;

        private final int[] kinds = new int[MOST];
        private final int[] places = new int[MOST];
        private final int[] numbers = new int[MOST];
        private int count = 0;
        private int[] bytes = null;
        private int length = 0;
        private int behind = 0;

        /** Finds all TOKENS of a tape; the last one is its END. */
        void scan(int[] tape, int taped) {
            bytes = tape;
            length = Math.min(taped, MOST_BYTES);
            behind = 0;
            count = 0;
            for (int i = 0; i < MOST && (i == 0 || kindAt(i - 1) != END); i++) {
                scanOne(i);
                count++;
            }
        }

        int kindAt(int i) {
            return i >= 0 && i < count && i < MOST ? kinds[i] : END;
        }

        int placeAt(int i) {
            return i >= 0 && i < count && i < MOST ? places[i] : length;
        }

        int numberAt(int i) {
            return i >= 0 && i < count && i < MOST ? numbers[i] : 0;
        }

        private void scanOne(int i) {
            if (i < 0 || i >= MOST) {
                return;
            }
            for (int blank = 0; blank < MOST_BYTES && isBlank(byteAt(behind)); blank++) {
                behind++;
            }
            places[i] = behind;
            numbers[i] = 0;
            int first = byteAt(behind);
            if (first == NONE) {
                kinds[i] = END;
            } else if (isLetter(first)) {
                kinds[i] = takeWord();
            } else if (isDigit(first)) {
                kinds[i] = NUMBER;
                numbers[i] = takeNumber();
            } else {
                kinds[i] = takeSign(first);
            }
        }

        private int byteAt(int i) {
            return bytes != null && i >= 0 && i < length && i < bytes.length ? bytes[i] : NONE;
        }

        private static boolean isBlank(int sign) {
            return sign == 32 || sign == 10;
        }

        private static boolean isLetter(int sign) {
            return sign >= 'a' && sign <= 'z' || sign >= 'A' && sign <= 'Z';
        }

        private static boolean isDigit(int sign) {
            return sign >= '0' && sign <= '9';
        }

        private int takeWord() {
            int start = behind;
            for (int i = 0; i < MOST_BYTES && isLetter(byteAt(behind)); i++) {
                behind++;
            }
            for (int word = TOLL; word <= WET; word++) {
                if (stands(spelling(word), start)) {
                    return word;
                }
            }
            return BAD;
        }

        /** Whether the bytes from there to where the TOKEN ends are that word. */
        private boolean stands(String word, int start) {
            if (word.length() != behind - start) {
                return false;
            }
            for (int i = 0; i < word.length(); i++) {
                if (word.charAt(i) != byteAt(start + i)) {
                    return false;
                }
            }
            return true;
        }

        private static String spelling(int word) {
            switch (word) {
                case TOLL:
                    return "toll";
                case RUBS:
                    return "rubs";
                case PAY:
                    return "pay";
                case GRANT:
                    return "grant";
                case PASS:
                    return "pass";
                case OF:
                    return "of";
                case FROM:
                    return "from";
                case TO:
                    return "to";
                case IF:
                    return "if";
                case END_IF:
                    return "end";
                case OR:
                    return "or";
                case AND:
                    return "and";
                case NOT:
                    return "not";
                default:
                    return nameSpelling(word);
            }
        }

        private static String nameSpelling(int word) {
            switch (word) {
                case WHO:
                    return "who";
                case MARKS:
                    return "marks";
                case DAY:
                    return "day";
                case PAID:
                    return "paid";
                case REST:
                    return "rest";
                case SLEEVES:
                    return "sleeves";
                case WET:
                    return "wet";
                default:
                    return "";
            }
        }

        private int takeNumber() {
            int number = 0;
            for (int i = 0; i < MOST_BYTES && isDigit(byteAt(behind)); i++) {
                number = Math.min(TOO_HIGH, number * 10 + byteAt(behind) - '0');
                behind++;
            }
            return number;
        }

        private int takeSign(int first) {
            int kind = signKind(first, byteAt(behind + 1) == '=');
            behind += kind == AT_MOST || kind == AT_LEAST ? 2 : 1;
            return kind;
        }

        private static int signKind(int first, boolean withLike) {
            switch (first) {
                case '<':
                    return withLike ? AT_MOST : LESS;
                case '>':
                    return withLike ? AT_LEAST : MORE;
                case '=':
                    return LIKE;
                case '#':
                    return UNLIKE;
                case '+':
                    return PLUS;
                case '-':
                    return MINUS;
                case '*':
                    return TIMES;
                case '/':
                    return BY;
                case '(':
                    return OPEN;
                case ')':
                    return CLOSE;
                case ';':
                    return STOP;
                case '?':
                    return THEN;
                case ':':
                    return ELSE;
                default:
                    return BAD;
            }
        }
    }

    /** Reads a tape as a TEXT, up to its first FAULT. */
    private static final class Reader {
        private static final int MISPLACED = 1;
        private static final int OUT_OF_BOUNDS = 2;
        private static final int TOO_DEEP = 3;
        private static final int SECOND = 4;
        private static final int FOREIGN_NAME = 5;
        private static final int TOO_MANY = 6;
        private static final int MOST_CLAUSES = 24;
        private static final int MOST_OPEN = 8;
        private static final int HIGHEST_NUMBER = 9999;

        private final int[] words = new int[MOST_BYTES];
        private int wordCount = 0;
        private final int[] rows = new int[MOST_CLAUSES * Text.ROW];
        private int clauses = 0;
        private int column = 0;
        private int[] toll = null;
        private int[] rubs = null;
        private int law = 0;
        private Tokens tokens = null;
        private int at = 0;
        private int kind = Tokens.END;
        private boolean hasRead = false;
        private int found = 0;
        private int place = NONE;

        /** The TEXT, or null: found and place tell its FAULT then. */
        Text read(Tokens ofTape) {
            hasRead = true;
            found = 0;
            place = NONE;
            clauses = 0;
            toll = null;
            rubs = null;
            tokens = ofTape;
            at = 0;
            kind = ofTape.kindAt(0);
            for (int i = 0; i <= MOST_CLAUSES && kind != Tokens.END; i++) {
                readClause();
            }
            return found != 0 ? null
                    : new Text(toll, rubs, clauses, Arrays.copyOf(rows, clauses * Text.ROW));
        }

        private void advance() {
            if (kind != Tokens.STOPPED && tokens != null) {
                at++;
                kind = tokens.kindAt(at);
            }
        }

        private void refuse(int fault) {
            if (found == 0 && tokens != null) {
                found = fault;
                place = tokens.placeAt(at);
                kind = Tokens.STOPPED;
            }
        }

        private void expect(int due) {
            if (kind == due) {
                advance();
            } else {
                refuse(MISPLACED);
            }
        }

        private void readClause() {
            if (!isWithin(kind, Tokens.TOLL, Tokens.PASS)) {
                refuse(MISPLACED);
            } else if (kind == Tokens.TOLL && toll != null || kind == Tokens.RUBS && rubs != null) {
                refuse(SECOND);
            } else if (clauses >= MOST_CLAUSES) {
                refuse(TOO_MANY);
            } else {
                column = 0;
                put(kind);
                if (kind == Tokens.TOLL || kind == Tokens.RUBS) {
                    readLaw();
                } else {
                    readDeed();
                }
                expect(Tokens.STOP);
                clauses++;
            }
        }

        private void readLaw() {
            law = kind;
            wordCount = 0;
            advance();
            readSum(0);
            int[] said = Arrays.copyOf(words, Math.max(0, Math.min(wordCount, words.length)));
            if (law == Tokens.TOLL) {
                toll = said;
            } else {
                rubs = said;
            }
        }

        private void readDeed() {
            int deed = kind;
            advance();
            if (deed == Tokens.PAY) {
                put(takeNumber(1, Town.MOST_PARTS));
                expect(Tokens.OF);
                put(takeNumber(1, Town.MOST_PARTS));
                expect(Tokens.FROM);
                put(takeNumber(0, MOST_FOLK - 1));
                expect(Tokens.TO);
                put(takeNumber(0, MOST_FOLK - 1));
            } else if (deed == Tokens.GRANT) {
                put(takeNumber(1, HIGHEST_NUMBER));
                expect(Tokens.TO);
                put(takeNumber(0, MOST_FOLK - 1));
            } else {
                put(takeNumber(1, Town.MOST_DAYS));
            }
        }

        private int takeNumber(int least, int most) {
            int number = tokens == null ? 0 : tokens.numberAt(at);
            if (kind != Tokens.NUMBER) {
                refuse(MISPLACED);
            } else if (!isWithin(number, least, most)) {
                refuse(OUT_OF_BOUNDS);
            } else {
                advance();
            }
            return number;
        }

        /** The next column of the CLAUSE's row. */
        private void put(int number) {
            int next = clauses * Text.ROW + column;
            if (next >= 0 && next < rows.length && column < Text.ROW) {
                rows[next] = number;
                column++;
            }
        }

        private void say(int what, int number) {
            if (wordCount >= 0 && wordCount < words.length) {
                words[wordCount] = Works.word(what, number);
                wordCount++;
            }
        }

        /** The word said there leads to the next one that will be said. */
        private void leadHere(int from, int what) {
            if (from >= 0 && from < wordCount && from < words.length) {
                words[from] = Works.word(what, wordCount);
            }
        }

        private void readSum(int open) {
            readProduct(open);
            for (int i = 0; i < MOST_BYTES && isWithin(kind, Tokens.PLUS, Tokens.MINUS); i++) {
                int what = kind;
                advance();
                readProduct(open);
                say(what, 0);
            }
        }

        private void readProduct(int open) {
            readOne(open);
            for (int i = 0; i < MOST_BYTES && isWithin(kind, Tokens.TIMES, Tokens.BY); i++) {
                int what = kind;
                advance();
                readOne(open);
                say(what, 0);
            }
        }

        private void readOne(int open) {
            switch (kind) {
                case Tokens.NUMBER:
                    say(Tokens.NUMBER, takeNumber(0, HIGHEST_NUMBER));
                    break;
                case Tokens.OPEN:
                    if (opens(open)) {
                        readSum(open + 1);
                        expect(Tokens.CLOSE);
                    }
                    break;
                case Tokens.MINUS:
                    if (opens(open)) {
                        readOne(open + 1);
                        say(Tokens.NEGATIVE, 0);
                    }
                    break;
                case Tokens.IF:
                    if (opens(open)) {
                        readChoice(open + 1);
                    }
                    break;
                default:
                    readName();
                    break;
            }
        }

        /** Whether one more may be open around the next; then the TOKEN is taken. */
        private boolean opens(int open) {
            if (open >= MOST_OPEN) {
                refuse(TOO_DEEP);
                return false;
            }
            advance();
            return true;
        }

        private void readName() {
            if (!isWithin(kind, Tokens.WHO, Tokens.WET)) {
                refuse(MISPLACED);
            } else if (law == Tokens.TOLL && kind >= Tokens.SLEEVES
                    || law == Tokens.RUBS && (kind == Tokens.PAID || kind == Tokens.REST)) {
                refuse(FOREIGN_NAME);
            } else {
                say(Tokens.NAME, kind);
                advance();
            }
        }

        private void readChoice(int open) {
            readEither(open);
            expect(Tokens.THEN);
            int then = wordCount;
            say(Tokens.THEN, 0);
            readSum(open);
            expect(Tokens.ELSE);
            int otherwise = wordCount;
            say(Tokens.ELSE, 0);
            leadHere(then, Tokens.THEN);
            readSum(open);
            leadHere(otherwise, Tokens.ELSE);
            expect(Tokens.END_IF);
        }

        private void readEither(int open) {
            readBoth(open);
            for (int i = 0; i < MOST_BYTES && kind == Tokens.OR; i++) {
                advance();
                readBoth(open);
                say(Tokens.OR, 0);
            }
        }

        private void readBoth(int open) {
            readAsk(open);
            for (int i = 0; i < MOST_BYTES && kind == Tokens.AND; i++) {
                advance();
                readAsk(open);
                say(Tokens.AND, 0);
            }
        }

        private void readAsk(int open) {
            if (kind == Tokens.NOT) {
                if (opens(open)) {
                    readAsk(open + 1);
                    say(Tokens.NOT, 0);
                }
                return;
            }
            readSum(open);
            int what = kind;
            if (isWithin(kind, Tokens.LESS, Tokens.UNLIKE)) {
                advance();
                readSum(open);
                say(what, 0);
            } else {
                refuse(MISPLACED);
            }
        }
    }
}
