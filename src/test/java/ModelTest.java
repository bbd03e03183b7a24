import java.math.BigInteger;
import java.util.ArrayDeque;
import java.util.ArrayList;
import java.util.Arrays;
import java.util.HashSet;
import java.util.List;
import java.util.Random;
import java.util.Set;

/**
 * Random runs against a second, plain program of the same document: it tries out all sets, all pairs and all
 * weathers, reads by a tree and copies its whole state for each step, so that it shares no trick with the class.
 */
public final class ModelTest {
    private static final int RUNS = 1000;
    private static final int CALLS = 200;
    private static final int SHOWN = 20;

    private static int wrong = 0;

    public static void main(String[] args) {
        int runs = args.length > 0 ? Integer.parseInt(args[0]) : RUNS;
        for (int run = 0; run < runs && wrong < SHOWN; run++) {
            new Run(run).go();
        }
        System.out.println(wrong == 0 ? runs + " random runs are as the model's" : "the model answers otherwise");
        if (wrong != 0) {
            System.exit(1);
        }
    }

    /** One run of calls on a new object and a new model. */
    private static final class Run {
        private final int number;
        private final Random random;
        private final CathedralCoin coin = new CathedralCoin();
        private final Model model = new Model();
        private final List<Object[]> told = new ArrayList<>();
        private boolean isWrong = false;

        Run(int number) {
            this.number = number;
            this.random = new Random(number * 7919L + 13);
        }

        void go() {
            int folk = random.nextInt(9);
            for (int i = 0; i < folk; i++) {
                call(0);
                if (random.nextInt(8) != 0) {
                    int marks = marksOf() / (1 + random.nextInt(8));
                    compare("grant", coin.grant(i, marks), model.grant(i, marks), i, marks);
                }
            }
            for (int i = 0; i < 10 && number % 7 == 0; i++) {
                compare("pass", coin.pass(97), model.pass(97), 97);
            }
            // Back to an image without texts, there is room for others again.
            compare("image", coin.image(), model.image());
            for (int i = 0; i < CALLS && !isWrong; i++) {
                call(random.nextInt(29));
            }
            for (int i = 0; i < 40 && !isWrong; i++) {
                compare("about", coin.about(i - 1), model.about(i - 1), i - 1);
            }
        }

        private void compare(String call, long got, long due, Object... args) {
            told.add(new Object[] {call, args, got});
            if (got != due && !isWrong) {
                isWrong = true;
                wrong++;
                System.out.println("run " + number + ": " + row(told.size() - 1) + ", the model says " + due);
                for (int i = Math.max(0, told.size() - 12); i < told.size() - 1; i++) {
                    System.out.println("    " + row(i));
                }
            }
        }

        private String row(int i) {
            return told.get(i)[0] + Arrays.toString((Object[]) told.get(i)[1]) + " -> " + told.get(i)[2];
        }

        /** A number from least to most, or, now and then, one that is off. */
        private int some(int least, int most) {
            int dice = random.nextInt(40);
            if (dice == 0) {
                return random.nextBoolean() ? least - 1 : most + 1;
            }
            if (dice == 1) {
                int[] far = {Integer.MIN_VALUE, Integer.MAX_VALUE, -2, -1, 0, 720721, 1 << 20};
                return far[random.nextInt(far.length)];
            }
            if (dice < 6) {
                return random.nextBoolean() ? least : most;
            }
            return (int) (least + (long) (random.nextDouble() * ((long) most - least + 1)));
        }

        private int who() {
            return some(0, Math.max(0, model.folk() - 1));
        }

        private int whoOrNone() {
            return some(-1, Math.max(0, model.folk() - 1));
        }

        private int marksOf() {
            switch (random.nextInt(4)) {
                case 0:
                    return some(1, 20);
                case 1:
                    return 720720 / (1 + random.nextInt(60));
                case 2:
                    return some(1, 720720);
                default:
                    return some(1, 4) * 10010;
            }
        }

        private void call(int which) {
            int a;
            int b;
            int c;
            int d;
            boolean wet = random.nextBoolean();
            switch (which) {
                case 0:
                    a = some(0, 9);
                    compare("folk", coin.folk(a), model.folk(a), a);
                    break;
                case 1:
                    a = some(0, 10);
                    b = some(0, 9999);
                    compare("weather", coin.weather(a, b) ? 1 : 0, model.weather(a, b) ? 1 : 0, a, b);
                    break;
                case 2:
                case 3:
                    tell(new Writer(random).script());
                    break;
                case 4:
                    a = some(-1, 3);
                    compare("by", coin.by(a) ? 1 : 0, model.by(a) ? 1 : 0, a);
                    break;
                case 5:
                case 6:
                    a = who();
                    b = marksOf();
                    compare("grant", coin.grant(a, b), model.grant(a, b), a, b);
                    break;
                case 7:
                case 8:
                    a = who();
                    b = who();
                    d = some(1, random.nextBoolean() ? 9 : 99);
                    c = some(1, Math.max(1, Math.min(d, 99)));
                    compare("pay", coin.pay(a, b, c, d), model.pay(a, b, c, d), a, b, c, d);
                    break;
                case 9:
                    a = some(1, random.nextInt(4) == 0 || number % 7 == 0 ? 99 : 4);
                    compare("pass", coin.pass(a), model.pass(a), a);
                    break;
                case 10:
                    a = some(0, 3);
                    compare("played", coin.played(a), model.played(a), a);
                    break;
                case 11:
                    int times = random.nextInt(8) == 0 ? 32 : 1;
                    for (int i = 0; i < times; i++) {
                        compare("undo", coin.undo(), model.undo());
                    }
                    break;
                case 12:
                    for (int i = -2; i < 9; i++) {
                        compare("marks", coin.marks(i), model.marks(i), i);
                    }
                    break;
                default:
                    ask(which, wet);
                    break;
            }
        }

        private void ask(int which, boolean wet) {
            int a;
            int b;
            int c;
            switch (which) {
                case 13:
                    a = whoOrNone();
                    b = some(0, 1);
                    compare("share", coin.share(a, b), model.share(a, b), a, b);
                    break;
                case 14:
                case 15:
                case 16:
                    a = who();
                    b = who();
                    c = random.nextInt(60) == 0 ? 0 : random.nextBoolean() ? some(1, 3) : some(1, 720720);
                    compare("owes", coin.owes(a, b, c), model.owes(a, b, c), a, b, c);
                    break;
                case 17:
                    compare("netted", coin.netted(-1, 0), model.netted(-1, 0), -1, 0);
                    for (int i = -2; i < 8; i++) {
                        b = some(0, 2);
                        compare("netted", coin.netted(i, b), model.netted(i, b), i, b);
                    }
                    break;
                case 18:
                    for (int i = -2; i < 9; i++) {
                        compare("married", coin.married(i), model.married(i), i);
                    }
                    break;
                case 19:
                    a = random.nextBoolean() ? some(1, 720720) : some(1, 50);
                    for (int i = -1; i < 9; i++) {
                        compare("bell", coin.bell(a, i), model.bell(a, i), a, i);
                    }
                    break;
                case 20:
                    a = who();
                    b = some(-1, 3);
                    c = some(0, random.nextBoolean() ? 60 : 5);
                    compare("cost", coin.cost(a, b, c, wet), model.cost(a, b, c, wet), a, b, c, wet);
                    break;
                case 21:
                    a = some(0, random.nextBoolean() ? 60 : 5);
                    compare("best", coin.best(a, wet), model.best(a, wet), a, wet);
                    break;
                case 22:
                case 23:
                    seeSome();
                    break;
                case 24:
                    a = who();
                    for (int i = -2; i < 12; i++) {
                        compare("rubbed", coin.rubbed(a, i), model.rubbed(a, i), a, i);
                    }
                    break;
                case 25:
                    if (random.nextInt(4) == 0) {
                        compare("image", coin.image(), model.image());
                    }
                    break;
                case 26:
                    if (number % 7 != 0 || random.nextInt(8) == 0) {
                        compare("back", coin.back(), model.back());
                    }
                    break;
                case 27:
                    a = some(-1, 2);
                    compare("fault", coin.fault(a), model.fault(a), a);
                    break;
                default:
                    a = some(-1, 40);
                    compare("about", coin.about(a), model.about(a), a);
                    break;
            }
        }

        /** Days that may well have been: what one would have, by weathers of the model's own. */
        private void seeSome() {
            int dice = random.nextInt(6);
            if (dice == 0) {
                int a = random.nextBoolean() ? -1 : some(0, 720720);
                compare("seen", coin.seen(a), model.seen(a), a);
                return;
            }
            compare("seen", coin.seen(-1), model.seen(-1), -1);
            int who = model.folk() == 0 ? 0 : random.nextInt(model.folk());
            int days = random.nextInt(10);
            for (int i = 1; i <= days && model.folk() > 0; i++) {
                int has = model.state.marks.get(who) - model.state.lost(who, model.state.ruling, i, random.nextInt(1 << i));
                compare("seen", coin.seen(has), model.seen(has), has);
            }
            int a = who;
            compare("rubbed", coin.rubbed(a, -1), model.rubbed(a, -1), a, -1);
            compare("rubbed", coin.rubbed(a, 0), model.rubbed(a, 0), a, 0);
        }

        private void tell(String text) {
            if (random.nextInt(10) != 0) {
                compare("end", coin.end(0), model.end(0), 0);
            }
            int fed = 0;
            while (fed < text.length()) {
                int[] five = new int[5];
                for (int i = 0; i < 20; i++) {
                    int sign = fed + i < text.length() ? text.charAt(fed + i) : random.nextInt(256);
                    five[i / 4] = five[i / 4] << 8 | sign;
                }
                compare("feed", coin.feed(five[0], five[1], five[2], five[3], five[4]),
                        model.feed(five[0], five[1], five[2], five[3], five[4]), text);
                fed += 20;
            }
            int n = random.nextInt(20) == 0 ? some(0, 300) : text.length();
            compare("end", coin.end(n), model.end(n), n);
            compare("about", coin.about(10), model.about(10), 10);
            compare("text", coin.text(), model.text(), text);
            compare("about", coin.about(10), model.about(10), 10);
            compare("fault", coin.fault(0), model.fault(0), 0);
            compare("fault", coin.fault(1), model.fault(1), 1);
            if (random.nextInt(3) == 0) {
                compare("by", coin.by(0) ? 1 : 0, model.by(0) ? 1 : 0, 0);
            }
        }
    }

    /** Writes random texts, most of them right ones. */
    private static final class Writer {
        private static final String[] STRAY = {"toll", "rubs", "pay", "of", "from", "to", "grant", "pass", "if", "end",
            "or", "and", "not", "who", "marks", "day", "paid", "rest", "sleeves", "wet", "<", "<=", ">", ">=", "=", "#",
            "+", "-", "*", "/", "(", ")", ";", "?", ":", "0", "7", "8", "99", "100", "9999", "10000", "007",
            "99999999999999999999", "coin", "Pay", "!", "\t", "\u0000", "\u00e9", "_", "endend", " ", "\n"};

        private final Random random;
        private final List<String> parts = new ArrayList<>();
        private boolean inToll = false;

        Writer(Random random) {
            this.random = random;
        }

        String script() {
            int most = random.nextInt(12) == 0 ? 26 : 1 + random.nextInt(6);
            boolean toll = most < 20 && random.nextBoolean();
            boolean rubs = most < 20 && random.nextInt(3) != 0;
            if (toll) {
                law(true);
            }
            if (rubs) {
                law(false);
            }
            for (int i = 0; i < most; i++) {
                int dice = random.nextInt(most > 20 ? 60 : 6);
                if (dice == 0 && (!toll || random.nextInt(20) == 0)) {
                    toll = true;
                    law(true);
                } else if (dice == 1 && (!rubs || random.nextInt(20) == 0)) {
                    rubs = true;
                    law(false);
                } else {
                    deed(most > 20 ? 3 : dice);
                }
            }
            if (random.nextInt(3) == 0) {
                spoil();
            }
            return cut(joined());
        }

        private void law(boolean isToll) {
            inToll = isToll;
            parts.add(isToll ? "toll" : "rubs");
            sum(random.nextInt(random.nextInt(4) == 0 ? 9 : 4));
            parts.add(";");
        }

        private void deed(int dice) {
            if (dice == 3) {
                say("pass", "" + (1 + random.nextInt(3)), ";");
            } else if (dice == 4) {
                say("grant", "" + (1 + random.nextInt(9999)), "to", "" + random.nextInt(3), ";");
            } else {
                int b = 1 + random.nextInt(random.nextBoolean() ? 9 : 99);
                int a = random.nextInt(12) == 0 ? 1 + random.nextInt(99) : 1 + random.nextInt(b);
                int who = random.nextInt(random.nextInt(5) == 0 ? 8 : 3);
                say("pay", "" + a, "of", "" + b, "from", "" + who, "to", "" + random.nextInt(3), ";");
            }
        }

        private void say(String... all) {
            parts.addAll(Arrays.asList(all));
        }

        private void sum(int depth) {
            product(depth);
            while (random.nextInt(3) == 0) {
                parts.add(random.nextBoolean() ? "+" : "-");
                product(depth);
            }
        }

        private void product(int depth) {
            one(depth);
            while (random.nextInt(3) == 0) {
                parts.add(random.nextBoolean() ? "*" : "/");
                one(depth);
            }
        }

        private void one(int depth) {
            int dice = random.nextInt(depth > 0 ? 7 : 3);
            if (dice == 0) {
                int[] mosts = {3, 100, 10000};
                parts.add("" + random.nextInt(mosts[random.nextInt(3)]));
            } else if (dice < 3) {
                String[] names = inToll ? new String[] {"who", "marks", "day", "paid", "rest"}
                        : new String[] {"who", "marks", "day", "sleeves", "wet"};
                parts.add(names[random.nextInt(5)]);
            } else if (dice == 3) {
                parts.add("(");
                sum(depth - 1);
                parts.add(")");
            } else if (dice == 4) {
                parts.add("-");
                one(depth - 1);
            } else {
                parts.add("if");
                either(depth - 1);
                parts.add("?");
                sum(depth - 1);
                parts.add(":");
                sum(depth - 1);
                parts.add("end");
            }
        }

        private void either(int depth) {
            ask(depth);
            while (random.nextInt(3) == 0) {
                parts.add(random.nextBoolean() ? "or" : "and");
                ask(depth);
            }
        }

        private void ask(int depth) {
            while (random.nextInt(4) == 0) {
                parts.add("not");
            }
            sum(depth);
            String[] signs = {"<", "<=", ">", ">=", "=", "#"};
            parts.add(signs[random.nextInt(6)]);
            sum(depth);
        }

        private void spoil() {
            int at = random.nextInt(parts.size() + 1);
            int dice = random.nextInt(6);
            if (dice > 3 && at < parts.size()) {
                respell(at);
            } else if (dice == 0 && at < parts.size()) {
                parts.remove(at);
            } else if (dice == 1 && at < parts.size()) {
                parts.set(at, STRAY[random.nextInt(STRAY.length)]);
            } else if (dice == 2) {
                String[] deep = {"(", "-", "if", "not"};
                String sign = deep[random.nextInt(4)];
                int times = 1 + random.nextInt(10);
                for (int i = 0; i < times; i++) {
                    parts.add(at, sign);
                }
            } else {
                parts.add(at, STRAY[random.nextInt(STRAY.length)]);
            }
        }

        /** Another name for a name, another number for a number, from there on. */
        private void respell(int from) {
            String[] names = {"who", "marks", "day", "paid", "rest", "sleeves", "wet"};
            String[] numbers = {"0", "8", "100", "9999", "10000", "00", "0000000001"};
            for (int at = from; at < parts.size(); at++) {
                if (Character.isDigit(parts.get(at).charAt(0))) {
                    parts.set(at, numbers[random.nextInt(numbers.length)]);
                    return;
                }
                if (Arrays.asList(names).contains(parts.get(at))) {
                    parts.set(at, names[random.nextInt(names.length)]);
                    return;
                }
            }
        }

        private String joined() {
            StringBuilder text = new StringBuilder();
            String ahead = "";
            for (String part : parts) {
                boolean touches = !ahead.isEmpty() && !part.isEmpty()
                        && Character.isLetterOrDigit(ahead.charAt(ahead.length() - 1))
                        && Character.isLetterOrDigit(part.charAt(0));
                if (touches || random.nextInt(6) == 0) {
                    text.append(random.nextInt(5) == 0 ? '\n' : ' ');
                }
                text.append(part);
                ahead = part;
            }
            return text.toString();
        }

        private String cut(String text) {
            return text.length() > 300 ? text.substring(0, 300) : text;
        }
    }

    /** A tree of what a text says. */
    private static final class Node {
        private final String sign;
        private final Node[] parts;

        Node(String sign, Node... parts) {
            this.sign = sign;
            this.parts = parts;
        }

        long value(java.util.Map<String, Integer> names) {
            if (parts.length == 0) {
                return Character.isDigit(sign.charAt(0)) ? Long.parseLong(sign) : names.get(sign);
            }
            if (sign.equals("if")) {
                return parts[parts[0].value(names) != 0 ? 1 : 2].value(names);
            }
            long a = parts[0].value(names);
            if (parts.length == 1) {
                return sign.equals("not") ? (a == 0 ? 1 : 0) : -a;
            }
            long b = parts[1].value(names);
            switch (sign) {
                case "or": return a != 0 || b != 0 ? 1 : 0;
                case "and": return a != 0 && b != 0 ? 1 : 0;
                case "<": return a < b ? 1 : 0;
                case "<=": return a <= b ? 1 : 0;
                case ">": return a > b ? 1 : 0;
                case ">=": return a >= b ? 1 : 0;
                case "=": return a == b ? 1 : 0;
                case "#": return a != b ? 1 : 0;
                case "+": return bound(a + b);
                case "-": return bound(a - b);
                case "*": return bound(a * b);
                default: return b == 0 ? 0 : bound(a / b);
            }
        }

        private static long bound(long value) {
            return value > 1000000 ? 1000000 : Math.max(value, -1000000);
        }
    }

    /** What a text says. */
    private static final class Said {
        private Node toll = null;
        private Node rubs = null;
        private final List<String[]> clauses = new ArrayList<>();
    }

    private static final class Fault extends RuntimeException {
        private static final long serialVersionUID = 1L;
        private final int kind;
        private final int place;

        Fault(int kind, int place) {
            this.kind = kind;
            this.place = place;
        }
    }

    /** Reads a text by looking for the longest token at each place. */
    private static final class Parse {
        private static final String[] SIGNS = {"<=", ">=", "<", ">", "=", "#", "+", "-", "*", "/", "(", ")", ";", "?", ":"};
        private static final java.util.regex.Pattern RUN = java.util.regex.Pattern.compile("[a-zA-Z]+|[0-9]+");
        private static final Set<String> BOTH = new HashSet<>(Arrays.asList("who", "marks", "day"));
        private static final Set<String> OF_TOLL = new HashSet<>(Arrays.asList("paid", "rest"));
        private static final Set<String> OF_RUBS = new HashSet<>(Arrays.asList("sleeves", "wet"));

        private final String text;
        private int at = 0;
        private String token = "";
        private final ArrayDeque<String> open = new ArrayDeque<>();
        private String clause = "";

        Parse(String text) {
            this.text = text;
            next();
        }

        Said read() {
            Said said = new Said();
            while (!token.isEmpty()) {
                clause = token;
                if (!Arrays.asList("toll", "rubs", "pay", "grant", "pass").contains(clause)) {
                    throw new Fault(1, at);
                }
                if (clause.equals("toll") && said.toll != null || clause.equals("rubs") && said.rubs != null) {
                    throw new Fault(4, at);
                }
                if (said.clauses.size() == 24) {
                    throw new Fault(6, at);
                }
                take(clause);
                if (clause.equals("toll")) {
                    said.toll = sum();
                    said.clauses.add(new String[] {"toll"});
                } else if (clause.equals("rubs")) {
                    said.rubs = sum();
                    said.clauses.add(new String[] {"rubs"});
                } else {
                    said.clauses.add(deed());
                }
                take(";");
            }
            return said;
        }

        private String[] deed() {
            if (clause.equals("pass")) {
                return new String[] {"pass", number(1, 99)};
            }
            if (clause.equals("grant")) {
                String marks = number(1, 9999);
                take("to");
                return new String[] {"grant", marks, number(0, 7)};
            }
            String a = number(1, 99);
            take("of");
            String b = number(1, 99);
            take("from");
            String who = number(0, 7);
            take("to");
            return new String[] {"pay", a, b, who, number(0, 7)};
        }

        private String number(int least, int most) {
            if (token.isEmpty() || !Character.isDigit(token.charAt(0))) {
                throw new Fault(1, at);
            }
            BigInteger value = new BigInteger(token);
            if (value.compareTo(BigInteger.valueOf(least)) < 0 || value.compareTo(BigInteger.valueOf(most)) > 0) {
                throw new Fault(2, at);
            }
            take(token);
            return value.toString();
        }

        private void take(String due) {
            if (!token.equals(due)) {
                throw new Fault(1, at);
            }
            at += token.length();
            next();
        }

        private void next() {
            while (at < text.length() && (text.charAt(at) == ' ' || text.charAt(at) == '\n')) {
                at++;
            }
            String rest = text.substring(at);
            token = rest.isEmpty() ? "" : rest.substring(0, 1);
            java.util.regex.Matcher matcher = RUN.matcher(rest);
            if (matcher.lookingAt()) {
                token = matcher.group();
                return;
            }
            for (String sign : SIGNS) {
                if (rest.startsWith(sign)) {
                    token = sign;
                    return;
                }
            }
        }

        private void enter() {
            if (open.size() == 8) {
                throw new Fault(3, at);
            }
            open.push(token);
            take(token);
        }

        private Node sum() {
            Node left = product();
            while (token.equals("+") || token.equals("-")) {
                String sign = token;
                take(sign);
                left = new Node(sign, left, product());
            }
            return left;
        }

        private Node product() {
            Node left = one();
            while (token.equals("*") || token.equals("/")) {
                String sign = token;
                take(sign);
                left = new Node(sign, left, one());
            }
            return left;
        }

        private Node one() {
            Node node;
            if (token.equals("(")) {
                enter();
                node = sum();
                take(")");
                open.pop();
                return node;
            }
            if (token.equals("-")) {
                enter();
                node = new Node("negative", one());
                open.pop();
                return node;
            }
            if (token.equals("if")) {
                enter();
                Node when = either();
                take("?");
                Node then = sum();
                take(":");
                node = new Node("if", when, then, sum());
                take("end");
                open.pop();
                return node;
            }
            return leaf();
        }

        private Node leaf() {
            String name = token;
            if (!name.isEmpty() && Character.isDigit(name.charAt(0))) {
                return new Node(number(0, 9999));
            }
            boolean isToll = clause.equals("toll");
            if ((isToll ? OF_RUBS : OF_TOLL).contains(name)) {
                throw new Fault(5, at);
            }
            if (!BOTH.contains(name) && !(isToll ? OF_TOLL : OF_RUBS).contains(name)) {
                throw new Fault(1, at);
            }
            take(name);
            return new Node(name);
        }

        private Node either() {
            Node left = both();
            while (token.equals("or")) {
                take("or");
                left = new Node("or", left, both());
            }
            return left;
        }

        private Node both() {
            Node left = ask();
            while (token.equals("and")) {
                take("and");
                left = new Node("and", left, ask());
            }
            return left;
        }

        private Node ask() {
            if (token.equals("not")) {
                enter();
                Node node = new Node("not", ask());
                open.pop();
                return node;
            }
            Node left = sum();
            String sign = token;
            if (!Arrays.asList("<", "<=", ">", ">=", "=", "#").contains(sign)) {
                throw new Fault(1, at);
            }
            take(sign);
            return new Node(sign, left, sum());
        }
    }

    /** All that an image keeps. */
    private static final class State {
        private List<Integer> marks = new ArrayList<>();
        private List<Integer> sleeves = new ArrayList<>();
        private int day = 0;
        private int rain = 0;
        private int x = 23;
        private boolean wet = false;
        private List<Said> texts = new ArrayList<>();
        private Said ruling = null;
        private List<State> steps = new ArrayList<>();
        private List<int[]> debts = new ArrayList<>();
        private List<Integer> seen = new ArrayList<>();

        State copy() {
            State other = new State();
            other.marks = new ArrayList<>(marks);
            other.sleeves = new ArrayList<>(sleeves);
            other.day = day;
            other.rain = rain;
            other.x = x;
            other.wet = wet;
            other.texts = new ArrayList<>(texts);
            other.ruling = ruling;
            other.steps = new ArrayList<>(steps);
            other.debts = new ArrayList<>(debts);
            other.seen = new ArrayList<>(seen);
            return other;
        }

        int all() {
            int all = 0;
            for (int one : marks) {
                all += one;
            }
            return all;
        }

        void step() {
            State ahead = copy();
            ahead.steps = null;
            steps.add(ahead);
            if (steps.size() > 30) {
                steps.remove(0);
            }
        }

        int rub(int who, int has, Said law, int onDay, boolean isWet) {
            if (law == null || law.rubs == null) {
                return 0;
            }
            java.util.Map<String, Integer> names = new java.util.HashMap<>();
            names.put("who", who);
            names.put("marks", has);
            names.put("day", onDay);
            names.put("sleeves", sleeves.get(who));
            names.put("wet", isWet ? 1 : 0);
            long rub = law.rubs.value(names);
            return (int) (rub < 0 ? 0 : rub > has ? has : rub);
        }

        /** What one has less behind days whose weathers are bits. */
        int lost(int who, Said law, int days, long weathers) {
            int has = marks.get(who);
            for (int i = 0; i < days; i++) {
                has -= rub(who, has, law, day + 1 + i, (weathers >> i & 1) == 1);
            }
            return marks.get(who) - has;
        }

        int balance(int who) {
            int balance = 0;
            for (int[] debt : debts) {
                balance += (debt[1] == who ? debt[2] : 0) - (debt[0] == who ? debt[2] : 0);
            }
            return balance;
        }
    }

    /** The document once more, in its plainest form. */
    private static final class Model {
        private static final int COIN = 720720;

        private State state = new State();
        private State kept = new State();
        private StringBuilder tape = new StringBuilder();
        private int[] fault = null;
        private List<int[]> nets = null;
        private int[] mates = null;
        private int matesSum = 0;

        int folk() {
            return state.marks.size();
        }

        private boolean isFolk(int who) {
            return who >= 0 && who < folk();
        }

        int folk(int sleeves) {
            if (sleeves < 0 || sleeves > 9 || folk() == 8) {
                return -1;
            }
            state.marks.add(0);
            state.sleeves.add(sleeves);
            return folk() - 1;
        }

        boolean weather(int rain, int seed) {
            if (rain < 0 || rain > 10 || seed < 0 || seed > 9999) {
                return false;
            }
            state.rain = rain;
            state.x = seed * 9 + 23;
            return true;
        }

        int feed(int... five) {
            if (tape.length() + 20 > 300) {
                return -1;
            }
            for (byte sign : java.nio.ByteBuffer.allocate(20).putInt(five[0]).putInt(five[1]).putInt(five[2])
                    .putInt(five[3]).putInt(five[4]).array()) {
                tape.append((char) (sign & 255));
            }
            return tape.length();
        }

        int end(int n) {
            if (n < 0 || n > tape.length()) {
                return -1;
            }
            tape.setLength(n);
            return n;
        }

        int text() {
            if (state.texts.size() == 4) {
                return -1;
            }
            String text = tape.toString();
            tape.setLength(0);
            try {
                state.texts.add(new Parse(text).read());
                fault = new int[] {0, -1};
                return state.texts.size() - 1;
            } catch (Fault found) {
                fault = new int[] {found.kind, found.place};
                return -1;
            }
        }

        int fault(int what) {
            return fault == null || what < 0 || what > 1 ? -1 : fault[what];
        }

        private boolean isText(int text) {
            return text >= 0 && text < state.texts.size();
        }

        boolean by(int text) {
            if (text != -1 && !isText(text)) {
                return false;
            }
            state.ruling = text == -1 ? null : state.texts.get(text);
            return true;
        }

        int grant(int who, int marks) {
            if (!isFolk(who) || marks < 1 || marks > COIN - state.all()) {
                return -1;
            }
            state.step();
            state.marks.set(who, state.marks.get(who) + marks);
            return COIN - state.all();
        }

        int pay(int who, int whom, int a, int b) {
            if (!isFolk(who) || !isFolk(whom) || who == whom || a < 1 || a > b || b > 99) {
                return -1;
            }
            state.step();
            int has = state.marks.get(who);
            int paid = (int) ((long) has * a / b);
            int rest = (int) ((long) has * a - (long) paid * b);
            long toll = 0;
            if (rest > 0) {
                toll = 1;
                if (state.ruling != null && state.ruling.toll != null) {
                    java.util.Map<String, Integer> names = new java.util.HashMap<>();
                    names.put("who", who);
                    names.put("marks", has);
                    names.put("day", state.day);
                    names.put("paid", paid);
                    names.put("rest", rest);
                    toll = state.ruling.toll.value(names);
                }
                toll = toll < 0 ? 0 : Math.min(toll, has - paid);
            }
            state.marks.set(who, has - paid - (int) toll);
            state.marks.set(whom, state.marks.get(whom) + paid);
            return paid;
        }

        int pass(int days) {
            if (days < 1 || days > 99 || state.day + days > 999) {
                return -1;
            }
            int ahead = state.all();
            for (int i = 0; i < days; i++) {
                state.step();
                state.day++;
                state.wet = state.x % 10 < state.rain;
                state.x = (state.x * 163 + 97) % 30097;
                for (int who = 0; who < folk(); who++) {
                    int has = state.marks.get(who);
                    state.marks.set(who, has - state.rub(who, has, state.ruling, state.day, state.wet));
                }
            }
            return ahead - state.all();
        }

        int played(int text) {
            if (!isText(text)) {
                return -2;
            }
            int i = 0;
            for (String[] clause : state.texts.get(text).clauses) {
                int answer = 0;
                int[] numbers = new int[5];
                for (int k = 1; k < clause.length; k++) {
                    numbers[k] = Integer.parseInt(clause[k]);
                }
                if (clause[0].equals("pay")) {
                    answer = pay(numbers[3], numbers[4], numbers[1], numbers[2]);
                } else if (clause[0].equals("grant")) {
                    answer = grant(numbers[2], numbers[1]);
                } else if (clause[0].equals("pass")) {
                    answer = pass(numbers[1]);
                }
                if (answer == -1) {
                    return i;
                }
                i++;
            }
            return -1;
        }

        int undo() {
            if (state.steps.isEmpty()) {
                return -1;
            }
            State ahead = state.steps.remove(state.steps.size() - 1);
            for (int who = 0; who < folk(); who++) {
                state.marks.set(who, who < ahead.marks.size() ? ahead.marks.get(who) : 0);
            }
            state.day = ahead.day;
            state.x = ahead.x;
            state.wet = ahead.wet;
            return state.steps.size();
        }

        int marks(int who) {
            return who == -1 ? COIN - state.all() : isFolk(who) ? state.marks.get(who) : -2;
        }

        private static int lower(int marks) {
            return COIN / BigInteger.valueOf(marks).gcd(BigInteger.valueOf(COIN)).intValue();
        }

        int share(int who, int what) {
            int marks = marks(who);
            if (marks == -2 || what < 0 || what > 1) {
                return -2;
            }
            return what == 1 ? lower(marks) : (int) ((long) marks * lower(marks) / COIN);
        }

        int owes(int who, int whom, int marks) {
            if (!isFolk(who) || !isFolk(whom) || who == whom || marks < 0 || marks > COIN) {
                return -1;
            }
            if (marks == 0) {
                state.debts.clear();
                return 0;
            }
            if (state.debts.size() == 20) {
                return -1;
            }
            state.debts.add(new int[] {who, whom, marks});
            return state.debts.size();
        }

        int netted(int i, int what) {
            List<Integer> people = new ArrayList<>();
            for (int who = 0; who < folk(); who++) {
                if (state.balance(who) != 0) {
                    people.add(who);
                }
            }
            bestSets = null;
            split(people, 0, new ArrayList<>());
            nets = new ArrayList<>();
            for (List<Integer> set : bestSets) {
                int carried = 0;
                for (int k = 0; k + 1 < set.size(); k++) {
                    carried += state.balance(set.get(k));
                    nets.add(carried < 0 ? new int[] {set.get(k), set.get(k + 1), -carried}
                            : new int[] {set.get(k + 1), set.get(k), carried});
                }
            }
            if (i == -1) {
                return nets.size();
            }
            return i < 0 || i >= nets.size() || what < 0 || what > 2 ? -2 : nets.get(i)[what];
        }

        private List<List<Integer>> bestSets = null;

        /** All ways in which people fall into sets, the sets by the lowest in them. */
        private void split(List<Integer> people, int next, List<List<Integer>> sets) {
            if (next == people.size()) {
                for (List<Integer> set : sets) {
                    int sum = 0;
                    for (int who : set) {
                        sum += state.balance(who);
                    }
                    if (sum != 0) {
                        return;
                    }
                }
                if (bestSets == null || isBetter(sets, bestSets)) {
                    bestSets = new ArrayList<>();
                    for (List<Integer> set : sets) {
                        bestSets.add(new ArrayList<>(set));
                    }
                }
                return;
            }
            for (int i = 0; i < sets.size(); i++) {
                sets.get(i).add(people.get(next));
                split(people, next + 1, sets);
                sets.get(i).remove(sets.get(i).size() - 1);
            }
            sets.add(new ArrayList<>(List.of(people.get(next))));
            split(people, next + 1, sets);
            sets.remove(sets.size() - 1);
        }

        private static boolean isBetter(List<List<Integer>> sets, List<List<Integer>> than) {
            if (sets.size() != than.size()) {
                return sets.size() > than.size();
            }
            for (int i = 0; i < sets.size(); i++) {
                int mine = bits(sets.get(i));
                int other = bits(than.get(i));
                if (mine != other) {
                    return mine < other;
                }
            }
            return false;
        }

        private static int bits(List<Integer> set) {
            int bits = 0;
            for (int who : set) {
                bits |= 1 << who;
            }
            return bits;
        }

        int married(int who) {
            if (who != -1 && !isFolk(who)) {
                return -2;
            }
            mates = null;
            int[] partner = new int[folk()];
            Arrays.fill(partner, -1);
            marry(partner, folk() % 2 == 1);
            return who == -1 ? matesSum : mates[who];
        }

        private void marry(int[] partner, boolean canBeAlone) {
            int one = 0;
            while (one < partner.length && partner[one] != -1) {
                one++;
            }
            if (one == partner.length) {
                judge(partner);
                return;
            }
            for (int other = one; other < partner.length; other++) {
                if (partner[other] == -1 && (other != one || canBeAlone)) {
                    partner[one] = other;
                    partner[other] = one;
                    marry(partner, canBeAlone && other != one);
                    partner[other] = -1;
                    partner[one] = -1;
                }
            }
        }

        private void judge(int[] partner) {
            int sum = 0;
            for (int one = 0; one < partner.length; one++) {
                if (partner[one] == one) {
                    sum += lower(state.marks.get(one));
                } else if (partner[one] > one) {
                    sum += lower(state.marks.get(one) + state.marks.get(partner[one]));
                }
            }
            boolean isBest = mates == null || sum < matesSum;
            if (mates != null && sum == matesSum) {
                for (int one = 0; one < partner.length; one++) {
                    int mine = partner[one] == one ? 99 : partner[one];
                    int other = mates[one] == one ? 99 : mates[one];
                    if (mine != other) {
                        isBest = mine < other;
                        break;
                    }
                }
            }
            if (isBest) {
                mates = partner.clone();
                matesSum = sum;
            }
        }

        int bell(int c, int who) {
            if (c < 1 || c > COIN || !isFolk(who) || state.all() == 0) {
                return -1;
            }
            int all = state.all();
            int[] pays = new int[folk()];
            List<Integer> order = new ArrayList<>();
            int missing = c;
            for (int one = 0; one < folk(); one++) {
                pays[one] = (int) ((long) c * state.marks.get(one) / all);
                missing -= pays[one];
                order.add(one);
            }
            order.sort((one, other) -> Long.compare((long) c * state.marks.get(other) % all,
                    (long) c * state.marks.get(one) % all));
            for (int i = 0; i < missing; i++) {
                pays[order.get(i)]++;
            }
            return pays[who];
        }

        int cost(int who, int text, int n, boolean wet) {
            if (!isFolk(who) || text != -1 && !isText(text) || n < 0 || n > 60) {
                return -2;
            }
            return state.lost(who, text == -1 ? null : state.texts.get(text), n, wet ? -1L : 0L);
        }

        int best(int n, boolean wet) {
            if (n < 0 || n > 60) {
                return -2;
            }
            int best = -1;
            int least = 0;
            for (int text = 0; text < state.texts.size(); text++) {
                int lost = 0;
                for (int who = 0; who < folk(); who++) {
                    lost += cost(who, text, n, wet);
                }
                if (best == -1 || lost < least) {
                    best = text;
                    least = lost;
                }
            }
            return best;
        }

        int seen(int marks) {
            if (marks == -1) {
                state.seen.clear();
                return 0;
            }
            if (marks < 0 || marks > COIN || state.seen.size() == 8) {
                return -2;
            }
            state.seen.add(marks);
            return state.seen.size();
        }

        int rubbed(int who, int i) {
            if (!isFolk(who)) {
                return -1;
            }
            List<Integer> fitting = new ArrayList<>();
            for (int weathers = 0; weathers < 1 << state.seen.size(); weathers++) {
                boolean fits = true;
                for (int days = 1; days <= state.seen.size() && fits; days++) {
                    fits = state.marks.get(who) - state.lost(who, state.ruling, days, weathers) == state.seen.get(days - 1);
                }
                if (fits) {
                    fitting.add(weathers);
                }
            }
            return i == -1 ? fitting.size() : i < 0 || i >= fitting.size() ? -1 : fitting.get(i);
        }

        int image() {
            kept = state.copy();
            return state.day;
        }

        int back() {
            state = kept.copy();
            return state.day;
        }

        int about(int what) {
            if (what >= 20 && what < 28) {
                return isFolk(what - 20) ? state.sleeves.get(what - 20) : -2;
            }
            if (what >= 30 && what < 38) {
                return isFolk(what - 30) ? state.balance(what - 30) + 20000000 : -2;
            }
            if (what < 0 || what > 10) {
                return -2;
            }
            return new int[] {folk(), state.day, state.rain, state.x, state.wet ? 1 : 0, state.texts.size(),
                state.texts.indexOf(state.ruling), state.steps.size(), state.debts.size(), state.seen.size(),
                tape.length()}[what];
        }
    }
}
