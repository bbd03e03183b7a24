/** Each promise of the document by hand: ordinary calls, the edges that it names, and wrong ones. */
public final class PromiseTest extends Dues {
    public static void main(String[] args) {
        newObject();
        folk();
        weather();
        feedAndEnd();
        text();
        fault();
        faultsOfOrder();
        by();
        grant();
        pay();
        sums();
        asks();
        pass();
        played();
        undo();
        marksAndShare();
        owes();
        netted();
        married();
        bell();
        cost();
        best();
        seenAndRubbed();
        imageAndBack();
        imageOfRows();
        about();
        finish();
    }

    private static void newObject() {
        sentence("promise 1");
        due("NONE", -1, CathedralCoin.NONE);
        CathedralCoin coin = new CathedralCoin();
        int[] all = {0, 0, 0, 23, 0, 0, -1, 0, 0, 0, 0};
        for (int i = 0; i < all.length; i++) {
            due("about(" + i + ")", all[i], coin.about(i));
        }
        due("marks(-1)", COIN, coin.marks(-1));
        coin.folk(3);
        coin.weather(4, 5);
        coin.grant(0, 10);
        coin.pass(3);
        due("back()", 0, coin.back());
        for (int i = 0; i < all.length; i++) {
            due("about(" + i + ") again", all[i], coin.about(i));
        }
        due("marks(-1) again", COIN, coin.marks(-1));
    }

    private static void folk() {
        sentence("promise 2");
        CathedralCoin coin = new CathedralCoin();
        due("folk(-1)", -1, coin.folk(-1));
        due("folk(10)", -1, coin.folk(10));
        due("folk(LOW)", -1, coin.folk(LOW));
        due("folk(HIGH)", -1, coin.folk(HIGH));
        for (int i = 0; i < 8; i++) {
            due("folk " + i, i, coin.folk(9 - i));
            due("marks " + i, 0, coin.marks(i));
            due("sleeves " + i, 9 - i, coin.about(20 + i));
        }
        due("the ninth", -1, coin.folk(0));
        due("about(0)", 8, coin.about(0));
    }

    private static void weather() {
        sentence("promise 3");
        CathedralCoin coin = new CathedralCoin();
        due("weather(10, 9999)", true, coin.weather(10, 9999));
        due("RAIN", 10, coin.about(2));
        due("X", 9999 * 9 + 23, coin.about(3));
        due("weather(11, 0)", false, coin.weather(11, 0));
        due("weather(-1, 0)", false, coin.weather(-1, 0));
        due("weather(0, -1)", false, coin.weather(0, -1));
        due("weather(0, 10000)", false, coin.weather(0, 10000));
        due("weather(LOW, HIGH)", false, coin.weather(LOW, HIGH));
        due("RAIN stays", 10, coin.about(2));
        due("X stays", 90014, coin.about(3));
        due("STEPS", 0, coin.about(7));
        due("weather(0, 0)", true, coin.weather(0, 0));
        due("X", 23, coin.about(3));
    }

    private static void feedAndEnd() {
        sentence("promise 4");
        CathedralCoin coin = new CathedralCoin();
        // "pass" "   1" ";   " and blanks; then with the bytes of the ints the other way round it is none.
        due("feed", 20, coin.feed(0x70617373, 0x20202031, 0x3b202020, 0x20202020, 0x20202020));
        due("about(10)", 20, coin.about(10));
        due("text", 0, coin.text());
        coin.feed(0x73736170, 0x20202031, 0x3b202020, 0x20202020, 0x20202020);
        due("text", -1, coin.text());
        due("fault(0)", 1, coin.fault(0));
        for (int i = 1; i <= 15; i++) {
            due("feed " + i, 20 * i, coin.feed(-1, HIGH, LOW, 0, 1));
        }
        due("feed 16", -1, coin.feed(0, 0, 0, 0, 0));
        due("about(10)", 300, coin.about(10));
        sentence("promise 5");
        due("end(301)", -1, coin.end(301));
        due("end(-1)", -1, coin.end(-1));
        due("end(LOW)", -1, coin.end(LOW));
        due("end(300)", 300, coin.end(300));
        due("end(281)", 281, coin.end(281));
        due("feed beyond", -1, coin.feed(0, 0, 0, 0, 0));
        due("about(10)", 281, coin.about(10));
        due("end(280)", 280, coin.end(280));
        due("end(281) of 280", -1, coin.end(281));
        due("feed to the last", 300, coin.feed(0, 0, 0, 0, 0));
        due("end(0)", 0, coin.end(0));
        due("end(1) of 0", -1, coin.end(1));
    }

    private static void text() {
        sentence("promise 6");
        CathedralCoin coin = new CathedralCoin();
        due("an empty text", 0, coin.text());
        due("its FAULT", 0, coin.fault(0));
        due("blanks", 1, tell(coin, " \n "));
        due("a fault", -1, tell(coin, "toll;"));
        due("TEXTS", 2, coin.about(5));
        due("the tape is empty", 0, coin.about(10));
        due("text 2", 2, tell(coin, "pass 1;"));
        due("text 3", 3, tell(coin, "pass 2;"));
        due("the tape is empty", 0, coin.about(10));
        due("the fifth", -1, tell(coin, "toll wet;"));
        due("the tape stays", 9, coin.about(10));
        due("it was not read", 0, coin.fault(0));
        due("TEXTS", 4, coin.about(5));
        // 300 bytes of blanks but for the last sign
        StringBuilder longest = new StringBuilder("toll 1");
        while (longest.length() < 299) {
            longest.append(' ');
        }
        dueFault(longest + ";", 0, -1);
        dueFault(longest + "?", 1, 299);
        dueFault(longest + " ", 1, 300);
    }

    private static void fault() {
        sentence("promise 7");
        CathedralCoin coin = new CathedralCoin();
        due("ahead of any", -1, coin.fault(0));
        due("ahead of any", -1, coin.fault(1));
        tell(coin, "pass 100;");
        due("fault(0)", 2, coin.fault(0));
        due("fault(1)", 5, coin.fault(1));
        due("fault(2)", -1, coin.fault(2));
        due("fault(-1)", -1, coin.fault(-1));
        tell(coin, "pass 99;");
        due("fault(0) without", 0, coin.fault(0));
        due("fault(1) without", -1, coin.fault(1));
        // 1: can't stand there, or is none
        dueFault(";", 1, 0);
        dueFault("Toll 1;", 1, 0);
        dueFault("tol 1;", 1, 0);
        dueFault("tolls 1;", 1, 0);
        dueFault("toll 1", 1, 6);
        dueFault("toll 1 \n", 1, 8);
        dueFault("toll \t1;", 1, 5);
        dueFault("toll 1\r;", 1, 6);
        dueFault("toll 1;\u0000", 1, 7);
        dueFault("toll \u00e9;", 1, 5);
        dueFault("toll 1 2;", 1, 7);
        dueFault("toll 1+;", 1, 7);
        dueFault("toll +1;", 1, 5);
        dueFault("toll (1;", 1, 7);
        dueFault("toll 1);", 1, 6);
        dueFault("toll foo;", 1, 5);
        dueFault("toll toll;", 1, 5);
        dueFault("toll not 1;", 1, 5);
        dueFault("toll 1<2;", 1, 6);
        dueFault("pay 1 of 2 from 0 to who;", 1, 21);
        dueFault("pay 1of2from0to1;", 0, -1);
        dueFault("pay of 2 from 0 to 1;", 1, 4);
        dueFault("grant to 1;", 1, 6);
        dueFault("pass;", 1, 4);
        dueFault("toll whoz;", 1, 5);
        dueFault("toll whoA;", 1, 5);
        dueFault("toll whoZ;", 1, 5);
        dueFault("toll who_;", 1, 8);
        dueFault("grant 5 to 1", 1, 12);
        dueFault("pass -1;", 1, 5);
        // an if, part by part
        dueFault("rubs if ?1:2 end;", 1, 8);
        dueFault("rubs if 1?1:2 end;", 1, 9);
        dueFault("rubs if (1<2)?1:2 end;", 1, 10);
        dueFault("rubs if 1<2<3?1:2 end;", 1, 11);
        dueFault("rubs if 1<2:1?2 end;", 1, 11);
        dueFault("rubs if 1<2?1 end;", 1, 14);
        dueFault("rubs if 1<2?1:2;", 1, 15);
        dueFault("rubs if 1=<2?1:2 end;", 1, 10);
        dueFault("rubs if 1<=2 and not 3>=4 or 5#6?1:2 end;", 0, -1);
        dueFault("rubs if 1<2 and?1:2 end;", 1, 15);
        dueFault("rubs if 1<2 not 1<2?1:2 end;", 1, 12);
        // 2: numbers
        dueFault("toll 9999;", 0, -1);
        dueFault("toll 0009999;", 0, -1);
        dueFault("toll 10000;", 2, 5);
        dueFault("toll 4294967297;", 2, 5);
        dueFault("toll 99999999999999999999999999;", 2, 5);
        dueFault("pay 99 of 99 from 7 to 7;", 0, -1);
        dueFault("pay 9 of 2 from 0 to 0;", 0, -1);
        dueFault("pay 0 of 1 from 0 to 1;", 2, 4);
        dueFault("pay 100 of 1 from 0 to 1;", 2, 4);
        dueFault("pay 1 of 0 from 0 to 1;", 2, 9);
        dueFault("pay 1 of 100 from 0 to 1;", 2, 9);
        dueFault("pay 1 of 1 from 8 to 1;", 2, 16);
        dueFault("pay 1 of 1 from 0 to 8;", 2, 21);
        dueFault("grant 9999 to 7;", 0, -1);
        dueFault("grant 10000 to 7;", 2, 6);
        dueFault("grant 0 to 7;", 2, 6);
        dueFault("grant 1 to 8;", 2, 11);
        dueFault("pass 99;", 0, -1);
        dueFault("pass 0;", 2, 5);
        dueFault("pass 100;", 2, 5);
    }

    private static void faultsOfOrder() {
        sentence("promise 7");
        // 3: eight may be open around one another, in any mixture; what is closed is not open
        dueFault("toll ((((((((1))))))));", 0, -1);
        dueFault("toll (((((((((1)))))))));", 3, 13);
        dueFault("toll --------1;", 0, -1);
        dueFault("toll ---------1;", 3, 13);
        dueFault("toll --------1----------1;", 3, 23);
        dueFault("toll --------1---------1;", 0, -1);
        dueFault("toll --------1*--------1;", 0, -1);
        dueFault("toll ((((((((1))))))))+((((((((1))))))));", 0, -1);
        dueFault("rubs if not not not not not not not 1<2?1:2 end;", 0, -1);
        dueFault("rubs if not not not not not not not not 1<2?1:2 end;", 3, 36);
        dueFault("rubs if not not not not not not not 1<2 and not not not not not not not 1<2?1:2 end;", 0, -1);
        dueFault("rubs if not not not not not not not (1)<2?1:2 end;", 3, 36);
        dueFault("rubs if not not not not not not not 1<2 and (1)<2?-1:2 end;", 0, -1);
        dueFault("toll (((((((-(1))))))));", 3, 13);
        dueFault("toll (((((((-if 1<2?1:2 end)))))));", 3, 13);
        dueFault("toll (((((((if 1<2?1:2 end)))))));", 0, -1);
        dueFault("toll (((((((if 1<2?1:(2) end)))))));", 3, 21);
        // 4 and 5
        dueFault("toll 1;toll 1;", 4, 7);
        dueFault("rubs 1;toll 1;rubs 1;", 4, 14);
        dueFault("toll 1 toll 1;", 1, 7);
        dueFault("toll 1;rubs 2;pass 1;", 0, -1);
        dueFault("toll who+marks+day+paid+rest;", 0, -1);
        dueFault("rubs who+marks+day+sleeves+wet;", 0, -1);
        dueFault("toll sleeves;", 5, 5);
        dueFault("toll wet;", 5, 5);
        dueFault("rubs paid;", 5, 5);
        dueFault("rubs 1+ rest;", 5, 8);
        dueFault("toll 1 wet;", 1, 7);
        // 6, and of one token the least
        StringBuilder full = new StringBuilder("toll 1;");
        for (int i = 1; i < 24; i++) {
            full.append("pass 1;");
        }
        dueFault(full.toString(), 0, -1);
        dueFault(full + " pass 1;", 6, 169);
        dueFault(full + "rubs 1;", 6, 168);
        dueFault(full + "toll 1;", 4, 168);
        dueFault(full + "of;", 1, 168);
        dueFault(full + "!", 1, 168);
        // the first as they are come to
        dueFault("pass 100 !", 2, 5);
        dueFault("toll wet 10000", 5, 5);
        dueFault("99999;", 1, 0);
    }

    private static void by() {
        sentence("promise 8");
        CathedralCoin coin = town(1);
        due("by(0)", false, coin.by(0));
        due("by(-2)", false, coin.by(-2));
        due("by(-1)", true, coin.by(-1));
        tell(coin, "rubs 5;");
        tell(coin, "rubs 7;");
        due("THE TEXT", -1, coin.about(6));
        coin.grant(0, 100);
        due("pass by none", 0, coin.pass(1));
        due("by(1)", true, coin.by(1));
        due("by(2)", false, coin.by(2));
        due("by(HIGH)", false, coin.by(HIGH));
        due("by(LOW)", false, coin.by(LOW));
        due("THE TEXT", 1, coin.about(6));
        due("pass by 1", 7, coin.pass(1));
        due("by(-1)", true, coin.by(-1));
        due("pass by none", 0, coin.pass(1));
    }

    private static void grant() {
        sentence("promise 9");
        CathedralCoin coin = town(2);
        due("grant(0, 0)", -1, coin.grant(0, 0));
        due("grant(0, -5)", -1, coin.grant(0, -5));
        due("grant(2, 1)", -1, coin.grant(2, 1));
        due("grant(-1, 1)", -1, coin.grant(-1, 1));
        due("grant(0, COIN + 1)", -1, coin.grant(0, COIN + 1));
        due("grant(0, HIGH)", -1, coin.grant(0, HIGH));
        due("STEPS", 0, coin.about(7));
        due("grant(0, 1)", COIN - 1, coin.grant(0, 1));
        due("grant(1, rest)", 0, coin.grant(1, COIN - 1));
        due("grant of nothing", -1, coin.grant(1, 1));
        due("marks(0)", 1, coin.marks(0));
        due("marks(1)", COIN - 1, coin.marks(1));
        due("STEPS", 2, coin.about(7));
    }

    private static void pay() {
        sentence("promise 10");
        CathedralCoin coin = town(3);
        due("pay of nothing", 0, coin.pay(0, 1, 1, 2));
        due("it is a STEP", 1, coin.about(7));
        coin.grant(0, 100);
        due("to oneself", -1, coin.pay(0, 0, 1, 2));
        due("to none", -1, coin.pay(0, 3, 1, 2));
        due("from none", -1, coin.pay(-1, 0, 1, 2));
        due("0 parts", -1, coin.pay(0, 1, 0, 2));
        due("of 0", -1, coin.pay(0, 1, 0, 0));
        due("3 of 2", -1, coin.pay(0, 1, 3, 2));
        due("of 100", -1, coin.pay(0, 1, 1, 100));
        due("LOW", -1, coin.pay(0, 1, LOW, LOW));
        due("HIGH", -1, coin.pay(HIGH, LOW, HIGH, HIGH));
        due("STEPS", 2, coin.about(7));
        due("whole: no toll", 25, coin.pay(0, 1, 1, 4));
        due("marks(0)", 75, coin.marks(0));
        due("cut: a toll of 1", 18, coin.pay(0, 1, 1, 4));
        due("marks(0)", 56, coin.marks(0));
        due("THE BOX", COIN - 99, coin.marks(-1));
        due("all of it", 56, coin.pay(0, 2, 99, 99));
        due("marks(0)", 0, coin.marks(0));
        coin = town(2);
        coin.grant(0, 1);
        due("nothing whole", 0, coin.pay(0, 1, 98, 99));
        due("the toll takes it", 0, coin.marks(0));
        due("THE BOX has it", COIN, coin.marks(-1));
        coin.grant(0, COIN);
        due("most of all", 713440, coin.pay(0, 1, 98, 99));
        due("whole", 7280, coin.marks(0));
        due("THE BOX", 0, coin.marks(-1));
    }

    private static void sums() {
        sentence("promise 10");
        dueToll("marks", 67);
        dueToll("paid", 33);
        dueToll("rest*10+who", 10);
        dueToll("67", 67);
        dueToll("68", 67);
        dueToll("0", 0);
        dueToll("-5", 0);
        dueToll("2+3*4", 14);
        dueToll("(2+3)*4", 20);
        dueToll("20-5-3", 12);
        dueToll("60/5/3", 4);
        dueToll("60/5*3", 36);
        dueToll("7/2", 3);
        dueToll("10+-7/2", 7);
        dueToll("10+7/-2", 7);
        dueToll("10+7/0", 10);
        dueToll("10+0/0", 10);
        dueToll("--5", 5);
        dueToll("5--5", 10);
        dueToll("-2*-3", 6);
        dueToll("-(2-9)", 7);
        // bounds at each step: 9999 * 9999 is 1000000 then
        dueToll("9999*9999/1000-960", 40);
        dueToll("9999*101-9999*100-9995", 0);
        dueToll("9999*9999+5-9999*100-60", 40);
        dueToll("-9999*9999/1000+1040", 40);
        dueToll("-9999*9999-5+9999*9999+7", 7);
        dueToll("9999*100+100+1-9999*100-60", 40);
        dueToll("9999*9999*9999*9999/9999-60", 40);
        // day is what it is ahead of the PAYMENT; who is who pays
        CathedralCoin coin = town(3);
        tell(coin, "toll day*10+who;");
        coin.by(0);
        coin.pass(3);
        coin.grant(2, 100);
        due("pay", 33, coin.pay(2, 0, 1, 3));
        due("toll 32", 35, coin.marks(2));
        // a whole PAYMENT asks no toll
        due("pay", 7, coin.pay(2, 0, 1, 5));
        due("no toll", 28, coin.marks(2));
        // a text without toll: 1
        tell(coin, "rubs 9;");
        coin.by(1);
        due("pay", 9, coin.pay(2, 0, 1, 3));
        due("toll 1", 18, coin.marks(2));
    }

    private static void asks() {
        sentence("promise 10");
        dueToll("if 1<2?3:4 end", 3);
        dueToll("if 2<2?3:4 end", 4);
        dueToll("if 2<=2?3:4 end", 3);
        dueToll("if 2>2?3:4 end", 4);
        dueToll("if 2>=2?3:4 end", 3);
        dueToll("if 2=2?3:4 end", 3);
        dueToll("if 2#2?3:4 end", 4);
        dueToll("if 2#3?3:4 end", 3);
        dueToll("if not 2#3?3:4 end", 4);
        dueToll("if not not 2#3?3:4 end", 3);
        dueToll("if 1=2 or 2=2?3:4 end", 3);
        dueToll("if 1=2 or 2=3?3:4 end", 4);
        dueToll("if 1=1 and 2=3?3:4 end", 4);
        dueToll("if 1=2 and 2=2?3:4 end", 4);
        dueToll("if 2=2 or 1=2?3:4 end", 3);
        dueToll("if 1=1 and 2=2?3:4 end", 3);
        dueToll("if 1=1 or 1=1 and 1=2?3:4 end", 3);
        dueToll("if 1=2 and 1=1 or 1=1?3:4 end", 3);
        dueToll("if not 1=1 or 1=1?3:4 end", 3);
        dueToll("if not 1=2 and 1=2?3:4 end", 4);
        dueToll("if 1+1=2?3+1:4*2 end*2", 8);
        dueToll("if 1+1=3?3+1:4*2 end*2", 16);
        dueToll("1+if 1=2?3:if 2=2?5:6 end end-2", 4);
        dueToll("if if 1=1?2:3 end=2?7:8 end", 7);
        dueToll("if marks=100 and paid=33 and rest=1 and day=0 and who=0?9:0 end", 9);
        // as much as can wait for one another: five values around each of eight
        StringBuilder deep = new StringBuilder("1");
        for (int i = 0; i < 8; i++) {
            deep.insert(0, "if 1=2 or 1=1 and 0<0+1*").append("?1:0 end");
        }
        dueToll("2+3*" + deep, 5);
    }

    private static void pass() {
        sentence("promise 11");
        CathedralCoin coin = town(3);
        due("pass(0)", -1, coin.pass(0));
        due("pass(-1)", -1, coin.pass(-1));
        due("pass(100)", -1, coin.pass(100));
        due("pass(HIGH)", -1, coin.pass(HIGH));
        due("DAY", 0, coin.about(1));
        tell(coin, "rubs if wet=1?sleeves*10:day+who end;");
        coin.by(0);
        coin.grant(0, 100);
        coin.grant(1, 100);
        coin.grant(2, 15);
        coin.weather(4, 0);
        // X 23: 3 is below 4, wet: 0, 10 and 15 (of 20)
        due("a WET day", 25, coin.pass(1));
        due("WET", 1, coin.about(4));
        due("X", (23 * 163 + 97) % 30097, coin.about(3));
        due("marks(0)", 100, coin.marks(0));
        due("marks(1)", 90, coin.marks(1));
        due("marks(2)", 0, coin.marks(2));
        // X 3846: 6 is not below 4; the day is 2 by then: 2 of 0, 3 of 1
        due("a dry day", 5, coin.pass(1));
        due("WET", 0, coin.about(4));
        due("X", 3846 * 163 % 30097 + 97, coin.about(3));
        due("marks(0)", 98, coin.marks(0));
        due("marks(1)", 87, coin.marks(1));
        due("THE BOX", COIN - 185, coin.marks(-1));
        // X mod 10 is not below what it is
        coin.weather(3, 0);
        coin.pass(1);
        due("3 is not below 3", 0, coin.about(4));
        coin.weather(0, 0);
        coin.pass(1);
        due("draws without RAIN", 3846, coin.about(3));
        coin.by(-1);
        for (int i = 0; i < 10; i++) {
            coin.pass(99);
        }
        due("DAY", 994, coin.about(1));
        due("beyond", -1, coin.pass(6));
        due("DAY", 994, coin.about(1));
        due("to the last", 0, coin.pass(5));
        due("DAY", 999, coin.about(1));
        due("none is left", -1, coin.pass(1));
        due("STEPS", 30, coin.about(7));
        // below 0 is 0: nobody gets MARKS by a DAY
        coin = town(1);
        tell(coin, "rubs -5;");
        coin.by(0);
        coin.grant(0, 9);
        due("below 0", 0, coin.pass(2));
        due("marks(0)", 9, coin.marks(0));
    }

    private static void played() {
        sentence("promise 12");
        CathedralCoin coin = town(2);
        due("played(0)", -2, coin.played(0));
        due("played(-1)", -2, coin.played(-1));
        due("played(HIGH)", -2, coin.played(HIGH));
        tell(coin, "toll 9;grant 100 to 0;rubs 3;pay 1 of 3 from 0 to 1;pass 2;");
        due("played(0)", -1, coin.played(0));
        // it was not THE TEXT: a toll of 1, and no rubs
        due("marks(0)", 66, coin.marks(0));
        due("marks(1)", 33, coin.marks(1));
        due("DAY", 2, coin.about(1));
        due("STEPS", 4, coin.about(7));
        coin.by(0);
        // 166 by 3: 55 and a toll of 9; two days of 3
        due("played(0) by itself", -1, coin.played(0));
        due("marks(0)", 166 - 55 - 9 - 6, coin.marks(0));
        due("marks(1)", 33 + 55 - 6, coin.marks(1));
        tell(coin, "grant 1 to 0;toll 1;pay 3 of 2 from 0 to 1;grant 1 to 0;");
        due("more parts than there are", 2, coin.played(1));
        due("what was done stays", 97, coin.marks(0));
        tell(coin, "rubs 1;grant 5 to 2;");
        due("one who isn't told", 1, coin.played(2));
        tell(coin, "pass 99;pass 99;pass 99;pass 99;pass 99;pass 99;pass 99;pass 99;pass 99;pass 99;pass 6;");
        due("beyond 999", 10, coin.played(3));
        due("DAY", 994, coin.about(1));
        due("played(4)", -2, coin.played(4));
        coin = town(2);
        tell(coin, "pay 1 of 1 from 1 to 1;");
        due("to oneself", 0, coin.played(0));
        tell(coin, "");
        due("nothing to be done", -1, coin.played(1));
        due("STEPS", 0, coin.about(7));
    }

    private static void undo() {
        sentence("promise 13");
        CathedralCoin coin = town(2);
        due("none", -1, coin.undo());
        tell(coin, "rubs 2;");
        coin.by(0);
        coin.weather(5, 3);
        coin.grant(0, 100);
        coin.weather(6, 7);
        coin.pay(0, 1, 1, 3);
        due("folk", 2, coin.folk(4));
        coin.pass(2);
        coin.grant(2, 50);
        coin.owes(0, 1, 5);
        coin.seen(9);
        due("undo of the grant", 4, coin.undo());
        due("marks(2)", 0, coin.marks(2));
        due("undo of a day", 3, coin.undo());
        due("DAY", 1, coin.about(1));
        due("X", ((7 * 9 + 23) * 163 + 97) % 30097, coin.about(3));
        due("WET", 0, coin.about(4));
        due("marks(0)", 64, coin.marks(0));
        coin.weather(10, 1);
        due("undo of a day", 2, coin.undo());
        due("X as ahead of it", 86, coin.about(3));
        due("RAIN stays", 10, coin.about(2));
        due("marks(0)", 66, coin.marks(0));
        due("undo of the pay", 1, coin.undo());
        due("marks(0)", 100, coin.marks(0));
        due("marks(1)", 0, coin.marks(1));
        due("undo of the first", 0, coin.undo());
        due("X as ahead of it", 50, coin.about(3));
        due("THE BOX", COIN, coin.marks(-1));
        due("FOLK stay", 3, coin.about(0));
        due("DEBTS stay", 1, coin.about(8));
        due("SEEN stays", 1, coin.about(9));
        due("THE TEXT stays", 0, coin.about(6));
        due("none", -1, coin.undo());
        coin.weather(10, 0);
        coin.pass(1);
        coin.weather(0, 0);
        coin.pass(1);
        due("dry", 0, coin.about(4));
        coin.undo();
        due("WET again", 1, coin.about(4));
        coin.undo();
        due("dry at first", 0, coin.about(4));
        for (int i = 1; i <= 35; i++) {
            coin.grant(0, i);
        }
        due("30 alone", 30, coin.about(7));
        for (int i = 29; i >= 0; i--) {
            due("undo", i, coin.undo());
        }
        due("the oldest stay", 15, coin.marks(0));
        due("none", -1, coin.undo());
        coin.pass(99);
        due("days are STEPS", 30, coin.about(7));
        coin.undo();
        due("one by one", 98, coin.about(1));
    }

    private static void marksAndShare() {
        sentence("promise 14");
        CathedralCoin coin = town(2);
        coin.grant(1, 480480);
        due("marks(0)", 0, coin.marks(0));
        due("marks(1)", 480480, coin.marks(1));
        due("marks(-1)", 240240, coin.marks(-1));
        due("marks(2)", -2, coin.marks(2));
        due("marks(-2)", -2, coin.marks(-2));
        due("marks(HIGH)", -2, coin.marks(HIGH));
        sentence("promise 15");
        int[][] shares = {{-1, 1, 3}, {0, 0, 1}, {1, 2, 3}};
        for (int[] share : shares) {
            due("upper of " + share[0], share[1], coin.share(share[0], 0));
            due("lower of " + share[0], share[2], coin.share(share[0], 1));
        }
        due("share(1, 2)", -2, coin.share(1, 2));
        due("share(1, -1)", -2, coin.share(1, -1));
        due("share(2, 0)", -2, coin.share(2, 0));
        due("share(-2, 0)", -2, coin.share(-2, 0));
        due("share(-2, 5)", -2, coin.share(-2, 5));
        coin.grant(0, 240239);
        due("upper", 240239, coin.share(0, 0));
        due("lower", COIN, coin.share(0, 1));
        coin.grant(0, 1);
        due("upper of an empty box", 0, coin.share(-1, 0));
        due("lower of an empty box", 1, coin.share(-1, 1));
    }

    private static void owes() {
        sentence("promise 16");
        CathedralCoin coin = town(3);
        due("owes oneself", -1, coin.owes(1, 1, 5));
        due("one not told", -1, coin.owes(0, 3, 5));
        due("one not told", -1, coin.owes(-1, 0, 5));
        due("below 0", -1, coin.owes(0, 1, -1));
        due("too much", -1, coin.owes(0, 1, COIN + 1));
        due("one", 1, coin.owes(0, 1, COIN));
        due("one and the same, with 0", -1, coin.owes(1, 1, 0));
        due("one not told, with 0", -1, coin.owes(0, 3, 0));
        due("two", 2, coin.owes(1, 0, 1));
        for (int i = 3; i <= 20; i++) {
            due("one more", i, coin.owes(0, 2, COIN));
        }
        due("the 21st", -1, coin.owes(0, 1, 1));
        due("DEBTS", 20, coin.about(8));
        due("BALANCE of 0", 20000000 - 19 * COIN + 1, coin.about(30));
        due("BALANCE of 1", 20000000 + COIN - 1, coin.about(31));
        due("BALANCE of 2", 20000000 + 18 * COIN, coin.about(32));
        due("nothing was paid", COIN, coin.marks(-1));
        due("forgotten", 0, coin.owes(2, 0, 0));
        due("DEBTS", 0, coin.about(8));
        due("BALANCE of 2", 20000000, coin.about(32));
    }

    private static void dueNets(CathedralCoin coin, int... nets) {
        due("netted(-1, 0)", nets.length / 3, coin.netted(-1, 0));
        for (int i = 0; i < nets.length; i++) {
            due("netted(" + i / 3 + ", " + i % 3 + ")", nets[i], coin.netted(i / 3, i % 3));
        }
        due("netted of none such", -2, coin.netted(nets.length / 3, 0));
    }

    private static void netted() {
        sentence("promise 17");
        CathedralCoin coin = town(8);
        dueNets(coin);
        due("netted(-2, 0)", -2, coin.netted(-2, 0));
        due("netted(LOW, 0)", -2, coin.netted(LOW, 0));
        coin.owes(0, 1, 10);
        coin.owes(1, 0, 10);
        dueNets(coin);
        coin.owes(0, 1, 0);
        // BALANCES -5 -3 5 3: two sets, 0 with 2 and 1 with 3
        coin.owes(0, 3, 3);
        coin.owes(0, 2, 2);
        coin.owes(1, 2, 3);
        dueNets(coin, 0, 2, 5, 1, 3, 3);
        due("netted(0, 3)", -2, coin.netted(0, 3));
        due("netted(0, -1)", -2, coin.netted(0, -1));
        due("netted(HIGH, 0)", -2, coin.netted(HIGH, 0));
        coin.owes(0, 1, 0);
        // BALANCES 5 5 -5 -5: of like ones the set of the lowest is the lowest: 0 with 2
        coin.owes(3, 0, 5);
        coin.owes(2, 1, 5);
        dueNets(coin, 2, 0, 5, 3, 1, 5);
        coin.owes(0, 1, 0);
        // BALANCES -4 1 0 3: one set along the numbers, one of 0 in none
        coin.owes(0, 1, 1);
        coin.owes(0, 3, 3);
        dueNets(coin, 0, 1, 4, 1, 3, 3);
        coin.owes(0, 1, 0);
        // BALANCES 4 -1 -3: who is owed is paid by the next one
        coin.owes(1, 0, 1);
        coin.owes(2, 0, 3);
        dueNets(coin, 1, 0, 4, 2, 1, 3);
        coin.owes(0, 1, 0);
        // BALANCES 1 2 -3 2 1 -3: {0 1 2} is 7, {0 2 3} is 13, ..: the lowest is taken
        coin.owes(2, 0, 1);
        coin.owes(2, 1, 2);
        coin.owes(5, 3, 2);
        coin.owes(5, 4, 1);
        dueNets(coin, 1, 0, 1, 2, 1, 3, 4, 3, 2, 5, 4, 3);
    }

    private static void dueMates(CathedralCoin coin, int sum, int... partner) {
        due("married(-1)", sum, coin.married(-1));
        for (int i = 0; i < partner.length; i++) {
            due("married(" + i + ")", partner[i], coin.married(i));
        }
        due("married of one not told", -2, coin.married(partner.length));
    }

    private static void married() {
        sentence("promise 18");
        dueMates(town(0), 0);
        dueMates(town(1), 1, 0);
        dueMates(town(2), 1, 1, 0);
        // all alike: the lowest partners, and the last one is left over
        dueMates(town(3), 2, 1, 0, 2);
        dueMates(town(5), 3, 1, 0, 3, 2, 4);
        dueMates(town(8), 4, 1, 0, 3, 2, 5, 4, 7, 6);
        due("married(-2)", -2, town(3).married(-2));
        due("married(HIGH)", -2, town(3).married(HIGH));
        // 1/3 of it with 1/6, a half; 1/5 with 1/20, a quarter
        CathedralCoin coin = town(4);
        coin.grant(0, COIN / 3);
        coin.grant(1, COIN / 5);
        coin.grant(2, COIN / 20);
        coin.grant(3, COIN / 6);
        dueMates(coin, 6, 3, 2, 1, 0);
        // the one left over counts alone: 0 with a half, 1 and 2 are a whole half
        coin = town(3);
        coin.grant(0, COIN / 2);
        coin.grant(1, COIN / 7);
        coin.grant(2, COIN / 14 * 5);
        dueMates(coin, 4, 0, 2, 1);
        // 0 left over would be alike (3 of a whole), but comes behind
        coin = town(3);
        coin.grant(1, COIN / 2);
        coin.grant(2, COIN / 2);
        dueMates(coin, 2, 0, 2, 1);
        coin = town(3);
        coin.grant(0, COIN / 2);
        coin.grant(1, COIN / 4);
        coin.grant(2, COIN / 4);
        dueMates(coin, 4, 0, 2, 1);
        coin = town(3);
        coin.grant(0, COIN / 2);
        coin.grant(1, COIN / 2);
        dueMates(coin, 2, 1, 0, 2);
    }

    private static void bell() {
        sentence("promise 19");
        CathedralCoin coin = town(4);
        due("no MARKS", -1, coin.bell(5, 0));
        coin.grant(0, 1);
        due("one MARK pays all", 5, coin.bell(5, 0));
        due("the others nothing", 0, coin.bell(5, 1));
        coin.grant(1, 1);
        coin.grant(2, 1);
        int[][] bells = {{1, 1, 0, 0, 0}, {2, 1, 1, 0, 0}, {3, 1, 1, 1, 0}, {10, 4, 3, 3, 0},
            {COIN, COIN / 3, COIN / 3, COIN / 3, 0}, {COIN - 1, 240240, 240240, 240239, 0}};
        for (int[] bell : bells) {
            for (int who = 0; who < 4; who++) {
                due("bell(" + bell[0] + ", " + who + ")", bell[who + 1], coin.bell(bell[0], who));
            }
        }
        due("bell(0, 0)", -1, coin.bell(0, 0));
        due("bell(-1, 0)", -1, coin.bell(-1, 0));
        due("bell(COIN + 1, 0)", -1, coin.bell(COIN + 1, 0));
        due("bell(1, 4)", -1, coin.bell(1, 4));
        due("bell(1, -1)", -1, coin.bell(1, -1));
        due("not done", 1, coin.marks(0));
        due("no STEP", 3, coin.about(7));
        coin.grant(1, 2);
        coin.grant(2, 1);
        // 1, 3, 2 of 6; of 4: 0 + 4/6, 2 + 0/6, 1 + 2/6: most was cut off of 0
        due("bell(4, 0)", 1, coin.bell(4, 0));
        due("bell(4, 1)", 2, coin.bell(4, 1));
        due("bell(4, 2)", 1, coin.bell(4, 2));
        coin = town(2);
        coin.grant(0, 1);
        coin.grant(1, COIN - 1);
        due("the last MARK", COIN - 1, coin.bell(COIN, 1));
        due("the first MARK", 1, coin.bell(COIN, 0));
        due("all but one", COIN - 2, coin.bell(COIN - 1, 1));
        due("of the first", 1, coin.bell(COIN - 1, 0));
    }

    private static void cost() {
        sentence("promise 20");
        CathedralCoin coin = town(3);
        coin.grant(1, 100);
        coin.grant(2, 1000);
        tell(coin, "rubs if wet=1?sleeves:day end;");
        tell(coin, "toll 5;");
        coin.pass(2);
        due("wet", 120, coin.cost(2, 0, 60, true));
        due("wet", 60, coin.cost(1, 0, 60, true));
        due("none wet: 3 and 4 and 5", 12, coin.cost(2, 0, 3, false));
        due("no more than one has", 100, coin.cost(1, 0, 60, false));
        due("of nothing", 0, coin.cost(0, 0, 60, false));
        due("no DAY", 0, coin.cost(2, 0, 0, true));
        due("by none", 0, coin.cost(2, -1, 60, true));
        due("without rubs", 0, coin.cost(2, 1, 60, true));
        due("n 61", -2, coin.cost(2, 0, 61, true));
        due("n -1", -2, coin.cost(2, 0, -1, true));
        due("text 2", -2, coin.cost(2, 2, 1, true));
        due("text -2", -2, coin.cost(2, -2, 1, true));
        due("who 3", -2, coin.cost(3, 0, 1, true));
        due("who -1", -2, coin.cost(-1, 0, 1, true));
        due("DAY", 2, coin.about(1));
        due("THE TEXT", -1, coin.about(6));
        due("marks(2)", 1000, coin.marks(2));
        due("STEPS", 4, coin.about(7));
        // marks are those of that day: a tenth each time
        tell(coin, "rubs marks/10;");
        due("tenths", 271, coin.cost(2, 2, 3, false));
        // RAIN and X don't matter
        coin.weather(10, 5);
        due("dry all the same", 12, coin.cost(2, 0, 3, false));
    }

    private static void best() {
        sentence("promise 21");
        CathedralCoin coin = town(2);
        due("none told", -1, coin.best(5, true));
        due("n 61", -2, coin.best(61, true));
        due("n -1", -2, coin.best(-1, false));
        coin.grant(0, 100);
        coin.grant(1, 50);
        tell(coin, "rubs if wet=1?9:0 end;");
        tell(coin, "rubs if who=0?4:wet*3 end;");
        tell(coin, "rubs if wet=0?1:4 end;");
        due("wet: 18, 7, 8", 1, coin.best(1, true));
        due("dry: 0, 4, 2", 0, coin.best(1, false));
        due("like ones", 0, coin.best(0, true));
        // in 20 days 150, 130, 130: the lowest of like ones
        due("to the end", 1, coin.best(20, true));
        due("THE TEXT", -1, coin.about(6));
        due("marks(0)", 100, coin.marks(0));
    }

    private static void seenAndRubbed() {
        sentence("promise 22");
        CathedralCoin coin = town(2);
        due("seen(-2)", -2, coin.seen(-2));
        due("seen(COIN + 1)", -2, coin.seen(COIN + 1));
        due("seen(LOW)", -2, coin.seen(LOW));
        due("nothing", 0, coin.seen(-1));
        for (int i = 1; i <= 8; i++) {
            due("seen", i, coin.seen(i % 2 == 0 ? 0 : COIN));
        }
        due("the ninth", -2, coin.seen(0));
        due("SEEN", 8, coin.about(9));
        due("nothing any more", 0, coin.seen(-1));
        due("SEEN", 0, coin.about(9));
        sentence("promise 23");
        due("nothing is SEEN", 1, coin.rubbed(0, -1));
        due("no DAY", 0, coin.rubbed(0, 0));
        due("none such", -1, coin.rubbed(0, 1));
        due("who 2", -1, coin.rubbed(2, -1));
        due("who -1", -1, coin.rubbed(-1, -1));
        due("i -2", -1, coin.rubbed(0, -2));
        for (int i = 0; i < 8; i++) {
            coin.seen(0);
        }
        due("all weathers", 256, coin.rubbed(0, -1));
        due("the last one", 255, coin.rubbed(0, 255));
        due("none such", -1, coin.rubbed(0, 256));
        coin.seen(-1);
        tell(coin, "rubs if wet=1?10-day:if day=2?8:1 end end;");
        coin.by(0);
        coin.grant(1, 100);
        // day 1: 91 or 99; day 2: 8 either way; day 3: 7 or 1
        coin.seen(99);
        due("dry", 1, coin.rubbed(1, -1));
        due("dry", 0, coin.rubbed(1, 0));
        coin.seen(91);
        due("either", 2, coin.rubbed(1, -1));
        due("either, dry", 0, coin.rubbed(1, 0));
        due("either, wet", 2, coin.rubbed(1, 1));
        coin.seen(84);
        due("two", 2, coin.rubbed(1, -1));
        due("wet on the third", 4, coin.rubbed(1, 0));
        due("and the second", 6, coin.rubbed(1, 1));
        due("none such", -1, coin.rubbed(1, 2));
        due("of another one", 0, coin.rubbed(0, -1));
        due("the 0th of none", -1, coin.rubbed(0, 0));
        coin.pass(1);
        due("from now on", 0, coin.rubbed(1, -1));
        coin.undo();
        coin.by(-1);
        due("by none", 0, coin.rubbed(1, -1));
        due("marks(1)", 100, coin.marks(1));
        due("DAY", 0, coin.about(1));
    }

    private static void imageAndBack() {
        sentence("promise 24");
        CathedralCoin coin = town(2);
        tell(coin, "rubs 3;");
        coin.by(0);
        coin.grant(0, 100);
        coin.weather(10, 4);
        coin.pass(2);
        coin.owes(0, 1, 7);
        coin.seen(5);
        int[] all = new int[11];
        for (int i = 0; i < 11; i++) {
            all[i] = coin.about(i);
        }
        due("image()", 2, coin.image());
        coin.folk(5);
        coin.grant(2, 40);
        coin.weather(0, 9);
        tell(coin, "rubs 4;");
        coin.by(1);
        coin.pass(5);
        coin.owes(1, 0, 9);
        coin.seen(6);
        tell(coin, "pass 0;");
        coin.feed(1, 2, 3, 4, 5);
        sentence("promise 25");
        due("back()", 2, coin.back());
        for (int i = 0; i < 10; i++) {
            due("about(" + i + ")", all[i], coin.about(i));
        }
        due("the tape is not in it", 20, coin.about(10));
        due("the latest FAULT is not in it", 2, coin.fault(0));
        due("its place is not in it", 5, coin.fault(1));
        due("marks(0)", 94, coin.marks(0));
        due("BALANCE", 20000000 + 7, coin.about(31));
        due("pass by the text of then", 3, coin.pass(1));
        due("the text told since is gone", -2, coin.played(1));
        due("undo", 3, coin.undo());
        due("undo of the image's", 2, coin.undo());
        due("marks(0)", 97, coin.marks(0));
        due("one told anew", 2, coin.folk(9));
        due("has nothing", 0, coin.marks(2));
        due("another text", 1, tell(coin, "rubs 5;"));
        due("back() again", 2, coin.back());
        due("it stays", 94, coin.marks(0));
        due("FOLK", 2, coin.about(0));
        coin.pass(1);
        due("image() of later", 3, coin.image());
        coin.pass(4);
        due("back() to later", 3, coin.back());
        due("STEPS", 4, coin.about(7));
    }

    /** What is told anew behind an image doesn't reach it. */
    private static void imageOfRows() {
        sentence("promise 25");
        CathedralCoin coin = town(3);
        tell(coin, "rubs 3;");
        coin.by(0);
        for (int i = 0; i < 32; i++) {
            coin.grant(0, 10);
        }
        coin.owes(0, 1, 7);
        coin.seen(317);
        coin.image();
        for (int i = 0; i < 30; i++) {
            coin.undo();
        }
        for (int i = 0; i < 31; i++) {
            coin.pay(0, 1, 1, 2);
        }
        coin.owes(0, 1, 0);
        coin.owes(2, 0, 9);
        coin.seen(-1);
        coin.seen(5);
        coin.back();
        due("SEEN as it was", 2, coin.rubbed(0, -1));
        due("BALANCE of 0", 20000000 - 7, coin.about(30));
        due("BALANCE of 1", 20000000 + 7, coin.about(31));
        due("BALANCE of 2", 20000000, coin.about(32));
        for (int i = 29; i >= 0; i--) {
            due("undo", i, coin.undo());
            due("marks(0)", 20 + i * 10, coin.marks(0));
        }
        due("none", -1, coin.undo());
    }

    private static void about() {
        sentence("promise 26");
        CathedralCoin coin = town(3);
        coin.weather(7, 1);
        coin.owes(0, 2, 30);
        coin.seen(1);
        coin.seen(2);
        coin.text();
        coin.text();
        coin.by(1);
        coin.pass(3);
        coin.feed(0, 0, 0, 0, 0);
        int x = 32;
        boolean wet = false;
        for (int i = 0; i < 3; i++) {
            wet = x % 10 < 7;
            x = (x * 163 + 97) % 30097;
        }
        int[] all = {3, 3, 7, x, wet ? 1 : 0, 2, 1, 3, 1, 2, 20};
        for (int i = 0; i < all.length; i++) {
            due("about(" + i + ")", all[i], coin.about(i));
        }
        for (int i = 0; i < 3; i++) {
            due("SLEEVES", i, coin.about(20 + i));
        }
        due("BALANCE of 0", 19999970, coin.about(30));
        due("BALANCE of 1", 20000000, coin.about(31));
        due("BALANCE of 2", 20000030, coin.about(32));
        int[] others = {-1, -2, 11, 19, 23, 27, 28, 29, 33, 37, 38, 100, LOW, HIGH};
        for (int other : others) {
            due("about(" + other + ")", -2, coin.about(other));
        }
    }
}
