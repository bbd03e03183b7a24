import java.util.ArrayList;
import java.util.List;
import java.util.function.Consumer;
import java.util.function.Function;
import java.util.function.Supplier;
import java.util.function.ToLongFunction;

/**
 * Each sentence of a promise by which a call is refused: the last that is allowed and the first that isn't, on a new
 * town, a lively one and a full one; and behind a refused call all is as if it had never been made.
 */
public final class RefusedTest extends Dues {
    private static final Supplier<CathedralCoin> BARE = CathedralCoin::new;
    private static final Supplier<CathedralCoin> LIVELY = RefusedTest::lively;
    private static final Supplier<CathedralCoin> FULL = RefusedTest::full;
    private static final List<Supplier<CathedralCoin>> ALL = List.of(BARE, LIVELY, FULL);

    /** Ways to what can't be seen at once: the tape, THE IMAGE, the STEPS, and what is to come. */
    private static final List<Function<CathedralCoin, List<String>>> WAYS = List.of(
            RefusedTest::look,
            coin -> {
                coin.text();
                return look(coin);
            },
            coin -> {
                coin.back();
                return look(coin);
            },
            coin -> {
                coin.back();
                coin.text();
                return look(coin);
            },
            RefusedTest::undoAll,
            coin -> {
                coin.back();
                return undoAll(coin);
            },
            RefusedTest::goOn);

    public static void main(String[] args) {
        newObject();
        folk();
        weather();
        feed();
        end();
        text();
        fault();
        by();
        grant();
        pay();
        pass();
        played();
        undo();
        marks();
        share();
        owes();
        netted();
        married();
        bell();
        cost();
        best();
        seen();
        rubbed();
        imageAndBack();
        about();
        asked();
        finish();
    }

    /** Three of the FOLK, one told behind THE IMAGE; 2 TEXTS, a FAULT, 7 bytes on the tape, some of all else. */
    private static CathedralCoin lively() {
        CathedralCoin coin = new CathedralCoin();
        coin.folk(0);
        coin.folk(9);
        tell(coin, "toll paid/9;rubs if wet=1?sleeves+day:who end;");
        coin.by(0);
        coin.weather(5, 77);
        coin.grant(0, 90000);
        coin.pay(0, 1, 2, 7);
        coin.pass(3);
        coin.owes(0, 1, 70);
        coin.seen(12);
        coin.image();
        coin.folk(4);
        coin.grant(2, 5005);
        coin.pay(1, 2, 1, 11);
        coin.pass(2);
        coin.owes(1, 2, 30);
        coin.owes(2, 0, 45);
        coin.seen(0);
        tell(coin, "grant 7 to 2;pay 1 of 1 from 2 to 0;");
        tell(coin, "pass 0;");
        tape(coin, "rubs 4;");
        return coin;
    }

    /** 8 of the FOLK who have all MARKS, 4 TEXTS, 20 DEBTS, 8 SEEN, 300 bytes, 30 STEPS, DAY 999. */
    private static CathedralCoin full() {
        CathedralCoin coin = new CathedralCoin();
        for (int i = 0; i < 8; i++) {
            coin.folk(2 + i);
        }
        tell(coin, "toll 2;rubs if wet=1?sleeves:who end;");
        tell(coin, "grant 9999 to 0;");
        tell(coin, "rubs 3;");
        tell(coin, "pass 99;");
        coin.weather(10, 9999);
        for (int i = 0; i < 10; i++) {
            coin.pass(99);
        }
        coin.pass(9);
        coin.grant(0, 100000);
        coin.grant(1, 50001);
        coin.by(0);
        coin.pay(1, 5, 3, 7);
        coin.grant(7, coin.marks(NONE));
        for (int i = 0; i < 20; i++) {
            coin.owes(i % 8, (i + 1 + i / 8) % 8, 1000 * i + 1);
        }
        for (int i = 0; i < 8; i++) {
            coin.seen(i * 5);
        }
        tape(coin, "rubs 7" + times(293, " ") + ";");
        return coin;
    }

    /** All that can be asked. */
    private static List<String> look(CathedralCoin coin) {
        List<String> all = new ArrayList<>();
        for (int i = 0; i <= 38; i++) {
            all.add("about(" + i + ") = " + coin.about(i));
        }
        for (int who = -1; who < 8; who++) {
            all.add("marks(" + who + ") = " + coin.marks(who));
            all.add("share(" + who + ", 1) = " + coin.share(who, 1));
            all.add("married(" + who + ") = " + coin.married(who));
            all.add("bell(1000, " + who + ") = " + coin.bell(1000, who));
            all.add("rubbed(" + who + ", -1) = " + coin.rubbed(who, NONE));
            for (int text = -1; text < 4; text++) {
                all.add("cost(" + who + ", " + text + ", 2, true) = " + coin.cost(who, text, 2, true));
            }
        }
        for (int i = -1; i < 7; i++) {
            for (int what = 0; what < 3; what++) {
                all.add("netted(" + i + ", " + what + ") = " + coin.netted(i, what));
            }
        }
        all.add("best(9, false) = " + coin.best(9, false));
        all.add("fault(0) = " + coin.fault(0));
        all.add("fault(1) = " + coin.fault(1));
        return all;
    }

    private static List<String> undoAll(CathedralCoin coin) {
        List<String> all = new ArrayList<>();
        for (int i = 0; i <= 30; i++) {
            all.add("undo() " + i + " = " + coin.undo() + ", " + coin.marks(0) + " " + coin.marks(1) + " "
                    + coin.marks(7) + " " + coin.about(1) + " " + coin.about(3) + " " + coin.about(4));
        }
        return all;
    }

    private static void takeBack(CathedralCoin coin, int steps) {
        for (int i = 0; i < steps; i++) {
            coin.undo();
        }
    }

    private static List<String> goOn(CathedralCoin coin) {
        List<String> all = new ArrayList<>();
        all.add("folk(3) = " + coin.folk(3));
        all.add("weather(3, 5) = " + coin.weather(3, 5));
        all.add("undo() = " + coin.undo());
        all.add("undo() = " + coin.undo());
        all.add("grant(0, 500) = " + coin.grant(0, 500));
        all.add("pay(0, 1, 1, 3) = " + coin.pay(0, 1, 1, 3));
        all.add("pass(1) = " + coin.pass(1));
        all.add("owes(0, 1, 3) = " + coin.owes(0, 1, 3));
        all.add("seen(4) = " + coin.seen(4));
        all.add("feed() = " + coin.feed(0x70617373, 0x20202031, 0x3b202020, 0x20202020, 0x20202020));
        all.add("text() = " + coin.text());
        all.add("played(1) = " + coin.played(1));
        all.add("played(0) = " + coin.played(0));
        all.addAll(look(coin));
        return all;
    }

    /** A call on a town answers so. */
    private static CathedralCoin allowed(String call, long want, Supplier<CathedralCoin> start,
            ToLongFunction<CathedralCoin> calls) {
        CathedralCoin coin = start.get();
        due(call, want, calls.applyAsLong(coin));
        return coin;
    }

    /** A call on a town answers so, and nothing is done by it. */
    private static void refused(String call, long want, Supplier<CathedralCoin> start,
            ToLongFunction<CathedralCoin> calls) {
        allowed(call, want, start, calls);
        for (Function<CathedralCoin, List<String>> way : WAYS) {
            CathedralCoin called = start.get();
            calls.applyAsLong(called);
            dueLike("behind " + call, way.apply(start.get()), way.apply(called));
        }
    }

    /** The same, on each of the three towns. */
    private static void refusedByAll(String call, long want, ToLongFunction<CathedralCoin> calls) {
        for (Supplier<CathedralCoin> start : ALL) {
            refused(call, want, start, calls);
        }
    }

    private static void dueLike(String call, List<String> want, List<String> got) {
        for (int i = 0; i < want.size(); i++) {
            due(call, want.get(i), got.get(i));
        }
    }

    private static Supplier<CathedralCoin> with(Supplier<CathedralCoin> start, Consumer<CathedralCoin> more) {
        return () -> {
            CathedralCoin coin = start.get();
            more.accept(coin);
            return coin;
        };
    }

    private static long as(boolean answer) {
        return answer ? 1 : 0;
    }

    private static void newObject() {
        sentence("promise 1: No FOLK");
        due("FOLK", 0, new CathedralCoin().about(0));
        sentence("promise 1: THE IMAGE is this");
        refused("back()", 0, BARE, CathedralCoin::back);
        for (Supplier<CathedralCoin> start : List.of(FULL, with(LIVELY, coin -> coin.undo()))) {
            CathedralCoin coin = start.get();
            boolean hasImage = start != FULL;
            due("DAY behind back()", hasImage ? 3 : 0, coin.back());
            due("FOLK behind back()", hasImage ? 2 : 0, coin.about(0));
        }
        // but for the tape and the latest FAULT, a full town is a new one again
        CathedralCoin coin = full();
        coin.back();
        coin.end(0);
        List<String> bare = look(new CathedralCoin());
        List<String> back = look(coin);
        bare.removeIf(row -> row.startsWith("fault"));
        back.removeIf(row -> row.startsWith("fault"));
        dueLike("behind back()", bare, back);
        dueLike("behind back()", undoAll(new CathedralCoin()), undoAll(coin));
    }

    private static void folk() {
        sentence("promise 2: folk, NONE for others");
        for (int sleeves : new int[] {-1, 10, LOW, HIGH}) {
            refusedByAll("folk(" + sleeves + ")", NONE, coin -> coin.folk(sleeves));
        }
        due("SLEEVES", 0, allowed("folk(0)", 0, BARE, coin -> coin.folk(0)).about(20));
        due("SLEEVES", 9, allowed("folk(9)", 0, BARE, coin -> coin.folk(9)).about(20));
        sentence("promise 2: folk, or if there are 8");
        due("FOLK", 8, allowed("the eighth", 7, () -> town(7), coin -> coin.folk(9)).about(0));
        refused("the ninth", NONE, () -> town(8), coin -> coin.folk(0));
        refused("the ninth", NONE, FULL, coin -> coin.folk(0));
        refused("the ninth", NONE, FULL, coin -> coin.folk(9));
    }

    private static void weather() {
        sentence("promise 3: weather, False for others");
        int[][] others = {{-1, 0}, {11, 0}, {0, -1}, {0, 10000}, {-1, 9999}, {11, 9999}, {10, -1}, {10, 10000},
            {LOW, 5}, {HIGH, 5}, {5, LOW}, {5, HIGH}, {-1, -1}, {11, 10000}};
        for (int[] other : others) {
            refusedByAll("weather(" + other[0] + ", " + other[1] + ")", 0,
                    coin -> as(coin.weather(other[0], other[1])));
        }
        int[][] ours = {{0, 0}, {10, 0}, {0, 9999}, {10, 9999}};
        for (int[] our : ours) {
            CathedralCoin coin = allowed("weather", 1, LIVELY, one -> as(one.weather(our[0], our[1])));
            due("RAIN", our[0], coin.about(2));
            due("X", our[1] * 9 + 23, coin.about(3));
        }
    }

    private static void feed() {
        sentence("promise 4: NONE, and none come, if there would be more than 300");
        refused("feed", NONE, FULL, coin -> coin.feed(1, 2, 3, 4, 5));
        for (int bytes : new int[] {281, 290, 299, 300}) {
            String text = "pass 1" + times(bytes - 7, " ") + ";";
            refused("feed behind " + bytes, NONE, with(LIVELY, coin -> tape(coin, text)),
                    coin -> coin.feed(0x3b3b3b3b, 0, 0, 0, 0));
        }
        for (int bytes : new int[] {0, 1, 279, 280}) {
            CathedralCoin coin = allowed("feed behind " + bytes, bytes + 20,
                    with(LIVELY, one -> tape(one, times(bytes, " "))), one -> one.feed(0, 0, 0, 0, 0));
            due("bytes", bytes + 20, coin.about(10));
        }
    }

    private static void end() {
        sentence("promise 5: NONE, and nothing is done, if it has not so many, or n is below 0");
        for (int n : new int[] {-1, -2, LOW, 301, HIGH}) {
            refusedByAll("end(" + n + ")", NONE, coin -> coin.end(n));
        }
        refused("end(1) of 0", NONE, BARE, coin -> coin.end(1));
        refused("end(8) of 7", NONE, LIVELY, coin -> coin.end(8));
        refused("end(20) of 7", NONE, LIVELY, coin -> coin.end(20));
        refused("all that it has", 0, BARE, coin -> coin.end(0));
        refused("all that it has", 7, LIVELY, coin -> coin.end(7));
        refused("all that it has", 300, FULL, coin -> coin.end(300));
        for (int n : new int[] {0, 1, 299}) {
            due("bytes", n, allowed("end(" + n + ")", n, FULL, coin -> coin.end(n)).about(10));
        }
        // what was cut off doesn't come again, and what is fed comes behind the first n
        CathedralCoin coin = new CathedralCoin();
        tape(coin, "pass 1;pass 2;pass 3;");
        coin.end(7);
        due("end(8)", NONE, coin.end(8));
        coin.feed(0x70617373, 0x20313030, 0x3b202020, 0x20202020, 0x20202020);
        due("bytes", 27, coin.about(10));
        due("pass 1; pass 100;", NONE, coin.text());
        due("its FAULT's place", 12, coin.fault(1));
    }

    private static void text() {
        sentence("promise 6: text, or (the tape stays) there are 4");
        refused("the fifth", NONE, FULL, CathedralCoin::text);
        refused("the fifth, that would have a FAULT", NONE, with(FULL, coin -> tape(coin, "pass 0;")),
                CathedralCoin::text);
        refused("the fifth, of an empty tape", NONE, with(FULL, coin -> coin.end(0)), CathedralCoin::text);
        Supplier<CathedralCoin> three = with(LIVELY, coin -> coin.text());
        due("TEXTS", 4, allowed("the fourth", 3, three, CathedralCoin::text).about(5));
        sentence("promise 6: text, NONE: it has a FAULT");
        Supplier<CathedralCoin> faulty = with(LIVELY, coin -> tape(coin, "toll 1;rubs 12345;"));
        for (int way = 0; way < WAYS.size(); way++) {
            if (way == 1 || way == 3 || way == 6) {
                // those read the tape, which is empty by then
                continue;
            }
            CathedralCoin coin = faulty.get();
            due("text()", NONE, coin.text());
            List<String> want = WAYS.get(way).apply(faulty.get());
            List<String> got = WAYS.get(way).apply(coin);
            want.removeIf(row -> row.startsWith("fault") || row.startsWith("about(10)"));
            got.removeIf(row -> row.startsWith("fault") || row.startsWith("about(10)"));
            dueLike("all but the tape and the FAULT", want, got);
        }
        CathedralCoin coin = faulty.get();
        coin.text();
        due("FAULT", 2, coin.fault(0));
        due("its place", 12, coin.fault(1));
        sentence("promise 6: The tape (empty then) is a TEXT");
        due("bytes", 0, coin.about(10));
        due("of an empty tape", 2, coin.text());
        due("a TEXT of no CLAUSE", NONE, coin.played(2));
    }

    private static void fault() {
        sentence("promise 7: fault, NONE for others");
        for (int what : new int[] {-1, 2, LOW, HIGH}) {
            refusedByAll("fault(" + what + ")", NONE, coin -> coin.fault(what));
        }
        sentence("promise 7: fault, NONE ahead of any");
        refused("fault(0)", NONE, BARE, coin -> coin.fault(0));
        refused("fault(1)", NONE, BARE, coin -> coin.fault(1));
        refused("not read yet", NONE, with(BARE, coin -> tape(coin, "pass 0;")), coin -> coin.fault(0));
        sentence("promise 7: 0 its FAULT (0 without), 1 its place (NONE without)");
        refused("with", 2, LIVELY, coin -> coin.fault(0));
        refused("its place", 5, LIVELY, coin -> coin.fault(1));
        refused("without", 0, FULL, coin -> coin.fault(0));
        refused("no place", NONE, FULL, coin -> coin.fault(1));
        refused("without, of an empty tape", 0, with(BARE, CathedralCoin::text), coin -> coin.fault(0));
        refused("with, at place 0", 0, with(BARE, coin -> tell(coin, "5")), coin -> coin.fault(1));
        sentence("promise 7: Of the latest text that was read");
        refused("without, behind one with", 0, with(LIVELY, CathedralCoin::text), coin -> coin.fault(0));
        refused("no place", NONE, with(LIVELY, CathedralCoin::text), coin -> coin.fault(1));
    }

    private static void by() {
        sentence("promise 8: by, False for others");
        for (int text : new int[] {-2, 4, LOW, HIGH}) {
            refusedByAll("by(" + text + ")", 0, coin -> as(coin.by(text)));
        }
        refused("by(0) of none", 0, BARE, coin -> as(coin.by(0)));
        refused("by(2) of 2", 0, LIVELY, coin -> as(coin.by(2)));
        due("THE TEXT", 1, allowed("by(1) of 2", 1, LIVELY, coin -> as(coin.by(1))).about(6));
        due("THE TEXT", 3, allowed("by(3) of 4", 1, FULL, coin -> as(coin.by(3))).about(6));
        due("THE TEXT", 0, allowed("by(0) of 4", 1, FULL, coin -> as(coin.by(0))).about(6));
        sentence("promise 8: THE TEXT (NONE: none)");
        due("THE TEXT", NONE, allowed("by(NONE)", 1, FULL, coin -> as(coin.by(NONE))).about(6));
        refused("by(NONE) of none", 1, BARE, coin -> as(coin.by(NONE)));
    }

    private static void grant() {
        sentence("promise 9: grant, NONE for others");
        for (int who : new int[] {-1, -2, 8, LOW, HIGH}) {
            refusedByAll("grant(" + who + ", 1)", NONE, coin -> coin.grant(who, 1));
        }
        refused("one who isn't told", NONE, BARE, coin -> coin.grant(0, 1));
        refused("one who isn't told", NONE, LIVELY, coin -> coin.grant(3, 1));
        sentence("promise 9: GRANTED (1 or more MARKS)");
        for (int marks : new int[] {0, -1, -COIN, LOW}) {
            refusedByAll("grant(0, " + marks + ")", NONE, coin -> coin.grant(0, marks));
        }
        int box = lively().marks(NONE);
        due("marks(0)", 1 + lively().marks(0),
                allowed("one MARK", box - 1, LIVELY, coin -> coin.grant(0, 1)).marks(0));
        sentence("promise 9: grant, NONE, if it has not so many");
        due("THE BOX", 0, allowed("all of it", 0, LIVELY, coin -> coin.grant(2, box)).marks(NONE));
        refused("one too many", NONE, LIVELY, coin -> coin.grant(2, box + 1));
        refused("HIGH", NONE, LIVELY, coin -> coin.grant(2, HIGH));
        refused("of an empty one", NONE, FULL, coin -> coin.grant(7, 1));
        refused("THE COIN and one", NONE, () -> town(1), coin -> coin.grant(0, COIN + 1));
        due("marks(0)", COIN, allowed("THE COIN", 0, () -> town(1), coin -> coin.grant(0, COIN)).marks(0));
    }

    private static void pay() {
        sentence("promise 10: pay, NONE for others");
        int[][] others = {{-1, 1}, {1, -1}, {8, 1}, {1, 8}, {LOW, 0}, {0, HIGH}, {-1, -1}, {8, 8}};
        for (int[] other : others) {
            refusedByAll("pay(" + other[0] + ", " + other[1] + ", 1, 2)", NONE,
                    coin -> coin.pay(other[0], other[1], 1, 2));
        }
        refused("to one who isn't told", NONE, LIVELY, coin -> coin.pay(0, 3, 1, 2));
        refused("from one who isn't told", NONE, LIVELY, coin -> coin.pay(3, 0, 1, 2));
        int[][] parts = {{0, 1}, {0, 0}, {-1, 1}, {-1, -1}, {1, 0}, {1, -1}, {2, 1}, {99, 98}, {1, 100}, {100, 100},
            {99, 100}, {0, 99}, {LOW, 9}, {9, LOW}, {HIGH, HIGH}, {1, HIGH}, {LOW, LOW}};
        for (int[] part : parts) {
            refusedByAll("pay(0, 1, " + part[0] + ", " + part[1] + ")", NONE,
                    coin -> coin.pay(0, 1, part[0], part[1]));
        }
        sentence("promise 10: pay, NONE to oneself");
        for (int who = 0; who < 8; who++) {
            int one = who;
            refusedByAll("pay(" + who + ", " + who + ", 1, 2)", NONE, coin -> coin.pay(one, one, 1, 2));
        }
        sentence("promise 10: 1 <= a <= b <= 99");
        int[][] ours = {{1, 1}, {1, 99}, {99, 99}, {98, 99}, {1, 2}};
        for (int[] our : ours) {
            allowed("pay(0, 1, " + our[0] + ", " + our[1] + ")", 990 * our[0] / our[1],
                    with(() -> town(2), coin -> coin.grant(0, 990)), coin -> coin.pay(0, 1, our[0], our[1]));
        }
        allowed("to the last one", full().marks(0), FULL, coin -> coin.pay(0, 7, 1, 1));
        allowed("from the last one", full().marks(7), FULL, coin -> coin.pay(7, 0, 1, 1));
    }

    private static void pass() {
        sentence("promise 11: DAYS go by (1 .. 99), NONE for others");
        for (int days : new int[] {0, -1, 100, LOW, HIGH}) {
            refusedByAll("pass(" + days + ")", NONE, coin -> coin.pass(days));
        }
        due("DAY", 99, allowed("pass(99)", 0, BARE, coin -> coin.pass(99)).about(1));
        due("DAY", 1, allowed("pass(1)", 0, BARE, coin -> coin.pass(1)).about(1));
        sentence("promise 11: pass, NONE beyond 999");
        refused("pass(1) at 999", NONE, FULL, coin -> coin.pass(1));
        refused("pass(99) at 999", NONE, FULL, coin -> coin.pass(99));
        Supplier<CathedralCoin> late = with(LIVELY, coin -> {
            for (int i = 0; i < 9; i++) {
                coin.pass(99);
            }
            coin.pass(10);
        });
        due("DAY", 906, late.get().about(1));
        refused("pass(94) at 906", NONE, late, coin -> coin.pass(94));
        refused("pass(99) at 906", NONE, late, coin -> coin.pass(99));
        CathedralCoin last = late.get();
        due("whether pass(93) at 906 is refused", 0, as(last.pass(93) == NONE));
        due("DAY", 999, last.about(1));
    }

    private static void played() {
        sentence("promise 12: played, -2 for others");
        for (int text : new int[] {-1, -2, 4, LOW, HIGH}) {
            refusedByAll("played(" + text + ")", -2, coin -> coin.played(text));
        }
        refused("played(0) of none", -2, BARE, coin -> coin.played(0));
        refused("played(2) of 2", -2, LIVELY, coin -> coin.played(2));
        allowed("played(1) of 2", NONE, LIVELY, coin -> coin.played(1));
        refused("played(0) that has no deeds", NONE, LIVELY, coin -> coin.played(0));
        sentence("promise 12: else the number of the CLAUSE that can't be");
        refused("THE BOX is empty", 0, FULL, coin -> coin.played(1));
        refused("DAY is the last", 0, FULL, coin -> coin.played(3));
        int[] places = {0, 1, 22, 23};
        for (int place : places) {
            Supplier<CathedralCoin> start = with(LIVELY, coin -> tell(coin,
                    times(place, "pass 1;") + "grant 5 to 3;" + times(23 - place, "pass 9;")));
            CathedralCoin coin = allowed("the " + place + "th can't be", place, start, one -> one.played(2));
            sentence("Terms: what was done stays");
            due("DAY", 5 + place, coin.about(1));
            due("STEPS", Math.min(30, 9 + place), coin.about(7));
        }
    }

    private static void undo() {
        sentence("promise 13: undo, NONE: there is none");
        refused("undo()", NONE, BARE, CathedralCoin::undo);
        refused("behind all of them", NONE, with(LIVELY, coin -> takeBack(coin, 30)), CathedralCoin::undo);
        refused("behind the latest 30", NONE, with(FULL, coin -> takeBack(coin, 30)), CathedralCoin::undo);
        sentence("promise 13: how many can be yet");
        allowed("the last one", 0, with(() -> town(1), coin -> coin.grant(0, 1)), CathedralCoin::undo);
        allowed("of 30", 29, FULL, CathedralCoin::undo);
    }

    private static void marks() {
        sentence("promise 14: marks, -2 for others");
        for (int who : new int[] {-2, 8, LOW, HIGH}) {
            refusedByAll("marks(" + who + ")", -2, coin -> coin.marks(who));
        }
        refused("one who isn't told", -2, BARE, coin -> coin.marks(0));
        refused("one who isn't told", -2, LIVELY, coin -> coin.marks(3));
        refused("the last of all", full().marks(7), FULL, coin -> coin.marks(7));
        refused("an empty box", 0, FULL, coin -> coin.marks(NONE));
        refused("a full box", COIN, BARE, coin -> coin.marks(NONE));
    }

    private static void share() {
        sentence("promise 15: share, -2 for others");
        int[][] others = {{-2, 0}, {8, 0}, {8, 1}, {-2, 1}, {LOW, 0}, {HIGH, 1}, {-1, -1}, {-1, 2}, {-1, LOW},
            {-1, HIGH}, {0, -1}, {0, 2}};
        for (int[] other : others) {
            refusedByAll("share(" + other[0] + ", " + other[1] + ")", -2, coin -> coin.share(other[0], other[1]));
        }
        refused("one who isn't told", -2, BARE, coin -> coin.share(0, 0));
        refused("one who isn't told", -2, LIVELY, coin -> coin.share(3, 1));
    }

    private static void owes() {
        sentence("promise 16: owes, NONE for others (FOLK that aren't told, one and the same, with 0, too)");
        int[][] others = {{-1, 0}, {0, -1}, {8, 0}, {0, 8}, {LOW, 0}, {0, HIGH}, {0, 0}, {7, 7}, {2, 2}, {-1, -1}};
        for (int[] other : others) {
            for (int marks : new int[] {0, 1, COIN}) {
                refusedByAll("owes(" + other[0] + ", " + other[1] + ", " + marks + ")", NONE,
                        coin -> coin.owes(other[0], other[1], marks));
            }
        }
        refused("one who isn't told", NONE, LIVELY, coin -> coin.owes(0, 3, 1));
        refused("one who isn't told, with 0", NONE, LIVELY, coin -> coin.owes(0, 3, 0));
        refused("one who isn't told, with 0", NONE, LIVELY, coin -> coin.owes(3, 0, 0));
        sentence("promise 16: A DEBT (1 .. 720720 MARKS)");
        for (int marks : new int[] {-1, COIN + 1, LOW, HIGH}) {
            refusedByAll("owes(0, 1, " + marks + ")", NONE, coin -> coin.owes(0, 1, marks));
        }
        allowed("one MARK", 4, LIVELY, coin -> coin.owes(0, 1, 1));
        due("BALANCE", lively().about(31) + COIN,
                allowed("THE COIN", 4, LIVELY, coin -> coin.owes(0, 1, COIN)).about(31));
        sentence("promise 16: 0: all DEBTS are forgotten");
        CathedralCoin coin = allowed("of 20", 0, FULL, one -> one.owes(0, 1, 0));
        due("DEBTS", 0, coin.about(8));
        for (int who = 0; who < 8; who++) {
            due("BALANCE", 20000000, coin.about(30 + who));
        }
        refused("of none", 0, () -> town(2), one -> one.owes(1, 0, 0));
        sentence("promise 16: owes, NONE if there are 20");
        refused("the 21st", NONE, FULL, one -> one.owes(0, 1, 1));
        refused("the 21st", NONE, FULL, one -> one.owes(7, 6, COIN));
        Supplier<CathedralCoin> nineteen = with(() -> town(2), one -> {
            for (int i = 0; i < 19; i++) {
                one.owes(0, 1, 1);
            }
        });
        due("DEBTS", 20, allowed("the 20th", 20, nineteen, one -> one.owes(1, 0, 1)).about(8));
    }

    private static void netted() {
        sentence("promise 17: netted, -2 if there is none such, and for others");
        int[][] others = {{-2, 0}, {LOW, 0}, {HIGH, 0}, {8, 0}, {7, 2}, {0, -1}, {0, 3}, {0, LOW}, {0, HIGH}};
        for (int[] other : others) {
            refusedByAll("netted(" + other[0] + ", " + other[1] + ")", -2, coin -> coin.netted(other[0], other[1]));
        }
        refused("the first of none", -2, BARE, coin -> coin.netted(0, 0));
        int many = lively().netted(NONE, 0);
        due("whether the last is one", 1, as(lively().netted(many - 1, 0) >= 0));
        refused("behind the last", -2, LIVELY, coin -> coin.netted(many, 0));
    }

    private static void married() {
        sentence("promise 18: married, -2 for others");
        for (int who : new int[] {-2, 8, LOW, HIGH}) {
            refusedByAll("married(" + who + ")", -2, coin -> coin.married(who));
        }
        refused("one who isn't told", -2, BARE, coin -> coin.married(0));
        refused("one who isn't told", -2, LIVELY, coin -> coin.married(3));
        due("whether the last one has a partner", 1, as(full().married(7) >= 0 && full().married(7) < 7));
    }

    private static void bell() {
        sentence("promise 19: bell, NONE for others");
        for (int c : new int[] {0, -1, COIN + 1, LOW, HIGH}) {
            refusedByAll("bell(" + c + ", 0)", NONE, coin -> coin.bell(c, 0));
        }
        for (int who : new int[] {-1, -2, 8, LOW, HIGH}) {
            refusedByAll("bell(5, " + who + ")", NONE, coin -> coin.bell(5, who));
        }
        refused("one who isn't told", NONE, LIVELY, coin -> coin.bell(5, 3));
        refused("of all MARKS each pays what one has", full().marks(7), FULL, coin -> coin.bell(COIN, 7));
        refused("of one MARK it is who has most", 1, FULL, coin -> coin.bell(1, 7));
        sentence("promise 19: bell, NONE if the FOLK have no MARKS");
        refused("without FOLK", NONE, BARE, coin -> coin.bell(5, 0));
        refused("with FOLK", NONE, () -> town(8), coin -> coin.bell(5, 7));
        Supplier<CathedralCoin> one = with(() -> town(2), coin -> coin.grant(1, 1));
        refused("one MARK is enough", COIN, one, coin -> coin.bell(COIN, 1));
        refused("who has none pays none", 0, one, coin -> coin.bell(COIN, 0));
    }

    private static void cost() {
        sentence("promise 20: cost, -2 for others");
        for (int who : new int[] {-1, -2, 8, LOW, HIGH}) {
            refusedByAll("cost(" + who + ", -1, 5, true)", -2, coin -> coin.cost(who, NONE, 5, true));
        }
        for (int n : new int[] {-1, 61, LOW, HIGH}) {
            refusedByAll("cost(0, -1, " + n + ", true)", -2, coin -> coin.cost(0, NONE, n, true));
            refusedByAll("cost(0, 0, " + n + ", false)", -2, coin -> coin.cost(0, 0, n, false));
        }
        for (int text : new int[] {-2, 4, LOW, HIGH}) {
            refusedByAll("cost(0, " + text + ", 5, true)", -2, coin -> coin.cost(0, text, 5, true));
        }
        refused("one who isn't told", -2, LIVELY, coin -> coin.cost(3, 0, 5, true));
        refused("a text that isn't told", -2, LIVELY, coin -> coin.cost(0, 2, 5, true));
        refused("a text that isn't told", -2, () -> town(1), coin -> coin.cost(0, 0, 5, true));
        sentence("Terms: COST of n DAYS (0 .. 60)");
        refused("of 60", 60 * 9, FULL, coin -> coin.cost(7, 0, 60, true));
        refused("of 1", 9, FULL, coin -> coin.cost(7, 0, 1, true));
        refused("of 0", 0, FULL, coin -> coin.cost(7, 0, 0, true));
        refused("the last text", 0, FULL, coin -> coin.cost(7, 3, 60, true));
    }

    private static void best() {
        sentence("promise 21: best, -2 for others");
        for (int n : new int[] {-1, 61, LOW, HIGH}) {
            refusedByAll("best(" + n + ", true)", -2, coin -> coin.best(n, true));
        }
        sentence("promise 21: NONE: no TEXT was told");
        for (int n : new int[] {0, 1, 60}) {
            refused("best(" + n + ", true)", NONE, BARE, coin -> coin.best(n, true));
            refused("best(" + n + ", false)", NONE, () -> town(8), coin -> coin.best(n, false));
        }
        refused("one was told", 0, with(BARE, CathedralCoin::text), coin -> coin.best(60, true));
        sentence("Terms: BEST, of like ones the lowest");
        refused("no DAY", 0, FULL, coin -> coin.best(0, true));
        refused("without FOLK", 0, with(BARE, coin -> {
            tell(coin, "rubs 5;");
            tell(coin, "rubs 4;");
        }), coin -> coin.best(60, true));
        refused("1 and 3 rub nothing", 1, FULL, coin -> coin.best(60, true));
    }

    private static void seen() {
        sentence("promise 22: seen, -2 for others");
        for (int marks : new int[] {-2, COIN + 1, LOW, HIGH}) {
            refusedByAll("seen(" + marks + ")", -2, coin -> coin.seen(marks));
        }
        allowed("seen(0)", 1, BARE, coin -> coin.seen(0));
        allowed("seen(COIN)", 1, BARE, coin -> coin.seen(COIN));
        sentence("promise 22: seen, -2 if there are 8");
        refused("the ninth", -2, FULL, coin -> coin.seen(0));
        refused("the ninth", -2, FULL, coin -> coin.seen(COIN));
        Supplier<CathedralCoin> seven = with(LIVELY, coin -> {
            for (int i = 0; i < 5; i++) {
                coin.seen(1);
            }
        });
        due("SEEN", 8, allowed("the eighth", 8, seven, coin -> coin.seen(9)).about(9));
        sentence("promise 22: NONE: nothing is SEEN any more");
        due("SEEN", 0, allowed("of 8", 0, FULL, coin -> coin.seen(NONE)).about(9));
        refused("of none", 0, BARE, coin -> coin.seen(NONE));
        allowed("anew", 1, with(FULL, coin -> coin.seen(NONE)), coin -> coin.seen(7));
    }

    private static void rubbed() {
        sentence("promise 23: rubbed, NONE for others");
        for (int who : new int[] {-1, -2, 8, LOW, HIGH}) {
            refusedByAll("rubbed(" + who + ", -1)", NONE, coin -> coin.rubbed(who, NONE));
            refusedByAll("rubbed(" + who + ", 0)", NONE, coin -> coin.rubbed(who, 0));
        }
        refused("one who isn't told", NONE, LIVELY, coin -> coin.rubbed(3, NONE));
        sentence("promise 23: rubbed, NONE if there is none such");
        for (int i : new int[] {-2, LOW, HIGH, 256}) {
            refusedByAll("rubbed(0, " + i + ")", NONE, coin -> coin.rubbed(0, i));
        }
        refused("the first of none", NONE, LIVELY, coin -> coin.rubbed(0, 0));
        refused("none", 0, LIVELY, coin -> coin.rubbed(0, NONE));
        Supplier<CathedralCoin> dull = with(() -> town(1), coin -> {
            for (int i = 0; i < 8; i++) {
                coin.seen(0);
            }
        });
        refused("all", 256, dull, coin -> coin.rubbed(0, NONE));
        refused("the first", 0, dull, coin -> coin.rubbed(0, 0));
        refused("the last", 255, dull, coin -> coin.rubbed(0, 255));
        refused("behind the last", NONE, dull, coin -> coin.rubbed(0, 256));
        refused("nothing is SEEN: one, of no DAY", 1, () -> town(1), coin -> coin.rubbed(0, NONE));
        refused("that one", 0, () -> town(1), coin -> coin.rubbed(0, 0));
        refused("behind it", NONE, () -> town(1), coin -> coin.rubbed(0, 1));
    }

    private static void imageAndBack() {
        sentence("promise 24: THE IMAGE is as all is now: DAY");
        for (Supplier<CathedralCoin> start : ALL) {
            int day = start.get().about(1);
            CathedralCoin coin = start.get();
            due("image()", day, coin.image());
            List<String> want = look(start.get());
            dueLike("behind image()", want, look(coin));
            sentence("promise 25: BACK to THE IMAGE (it stays): DAY");
            due("back()", day, coin.back());
            dueLike("behind back()", want, look(coin));
        }
        for (Supplier<CathedralCoin> start : ALL) {
            CathedralCoin coin = start.get();
            coin.image();
            coin.undo();
            coin.folk(1);
            coin.owes(0, 1, 0);
            coin.seen(NONE);
            coin.weather(1, 1);
            coin.by(NONE);
            coin.pay(0, 1, 1, 3);
            coin.back();
            coin.undo();
            coin.pass(1);
            due("back() again", start.get().about(1), coin.back());
            dueLike("behind back() again", look(start.get()), look(coin));
            dueLike("behind back() again", undoAll(start.get()), undoAll(coin));
        }
        sentence("Terms: AN IMAGE: all as it is, but the tape and the latest FAULT");
        CathedralCoin coin = lively();
        coin.image();
        tell(coin, "pass");
        coin.feed(0, 0, 0, 0, 0);
        coin.back();
        due("bytes", 20, coin.about(10));
        due("FAULT", 1, coin.fault(0));
        due("its place", 4, coin.fault(1));
    }

    private static void about() {
        sentence("promise 26: about, -2 for others");
        for (int what : new int[] {-1, -2, 11, 19, 28, 29, 38, 39, LOW, HIGH, LOW + 20, LOW + 30}) {
            refusedByAll("about(" + what + ")", -2, coin -> coin.about(what));
        }
        refused("SLEEVES of one who isn't told", -2, BARE, coin -> coin.about(20));
        refused("SLEEVES of one who isn't told", -2, LIVELY, coin -> coin.about(23));
        refused("BALANCE of one who isn't told", -2, BARE, coin -> coin.about(30));
        refused("BALANCE of one who isn't told", -2, LIVELY, coin -> coin.about(33));
        refused("SLEEVES of the first", 2, FULL, coin -> coin.about(20));
        refused("SLEEVES of the last", 9, FULL, coin -> coin.about(27));
        sentence("promise 26: about, what is full");
        int[] most = {8, 999, 10, -1, 1, 4, 0, 30, 20, 8, 300};
        for (int i = 0; i < most.length; i++) {
            int what = i;
            if (what != 3) {
                refused("about(" + what + ")", most[what], FULL, coin -> coin.about(what));
            }
        }
    }

    /** What is asked is not done: no question leaves a trace. */
    private static void asked() {
        sentence("promises 14 to 23 and 26: asked, not done");
        for (Supplier<CathedralCoin> start : ALL) {
            refused("all questions", 0, start, coin -> {
                look(coin);
                return 0;
            });
        }
    }
}
