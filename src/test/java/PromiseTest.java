/** For each promise of the document: ordinary inputs, the edges that it names, wrong inputs. */
public final class PromiseTest extends Check {
    public static void main(String[] args) {
        p1();
        p2();
        p3();
        p4();
        p4Places();
        p4Laws();
        p5();
        p6();
        p7();
        p8();
        p9();
        p9Values();
        p10();
        p11();
        p11Print();
        p12();
        p13();
        p13Numbers();
        p14();
        p15();
        p16();
        p17();
        p18();
        p19();
        p20();
        p21();
        p22();
        p23();
        p24();
        p26();
        p27();
        p28();
        p29();
        p30();
        p31();
        p32();
        p33();
        p34();
        p35();
        p36();
        p37();
        newsOnDayNought();
        staleRows();
        end();
    }

    private static void p1() {
        promise = "promise 1";
        SecondTelling x = new SecondTelling();
        for (int what = 0; what <= 13; what++) {
            due("count " + what, x.count(what), 0);
        }
        due("feed", x.feed(0, 0, 0, 0, 0), 20);
    }

    private static void p2() {
        promise = "promise 2";
        SecondTelling x = new SecondTelling();
        for (int i = 1; i <= 35; i++) {
            due("feed " + i, x.feed(0x20202020, 0x20202020, 0x20202020, 0x20202020, 0x20202020), 20 * i);
        }
        due("a 36th feed", x.feed(1, 1, 1, 1, 1), -1);
        due("text of all", x.text(700), 0);
        x.feed(0x6d616e20, 0x61203120, 0x3b202020, 0x20202020, 0x20202020);
        due("the highest byte first", x.text(9), 1);
        due("bent", x.bent(0), 1);
        x.feed(-1, 0, 0, 0, 0);
        due("a byte above 127 is none", x.text(1), -1);
    }

    private static void p3() {
        promise = "promise 3";
        SecondTelling x = new SecondTelling();
        due("too many", x.text(1), -2);
        due("below 0", x.text(-1), -2);
        feedAll(x, "man a 1;man b 2;");
        due("more than there are", x.text(21), -2);
        due("the first one alone", x.text(8), 1);
        due("people", x.count(0), 1);
        due("the tape is empty", x.text(1), -2);
        due("a fault", load(x, "man a 1;man a 2;"), -1);
        due("all stays", x.count(0), 1);
        due("the tape is empty behind a fault", x.feed(0, 0, 0, 0, 0), 20);
        due("nothing", x.text(0), 0);
        due("no people", x.count(0), 0);
        due("the tape is empty behind text(0)", x.feed(0, 0, 0, 0, 0), 20);
        textForgetsAll();
        fine("", 0);
        fine(" \n ", 0);
        fine("man a 1;\nman b 2 ;\n", 2);
        fine("man a1;thing b2 3;sees a b;", 3);
    }

    private static void textForgetsAll() {
        SecondTelling x = of(TOWN);
        x.go(2);
        x.keep();
        x.tell(1, 0);
        x.see(2, 1, 0, 12, true);
        x.known(0);
        due("a fault", load(x, "nothing;"), -1);
        due("day stays", x.count(5), 2);
        due("undone stays", x.count(13), 1);
        due("seen stays", x.count(11), 1);
        due("known stays", x.count(12), 0);
        due("printed stays", x.count(8), 1);
        due("the image stays", x.back(), 2);
        x.tell(1, 0);
        due("text", load(x, TOWN), 16);
        due("day", x.count(5), 0);
        due("held", x.count(7), 0);
        due("printed", x.count(8), 0);
        due("seen", x.count(11), 0);
        due("undone", x.count(13), 0);
        due("no image", x.back(), -1);
        x.see(2, 1, 0, 12, true);
        due("all known", x.count(12), 1);
        due("bents", x.bents(0), 4);
    }

    private static void p4() {
        promise = "promise 4";
        SecondTelling x = new SecondTelling();
        due("fault(0) of a new one", x.fault(0), 0);
        due("fault(1) of a new one", x.fault(1), -1);
        due("fault(2)", x.fault(2), -1);
        due("fault(-1)", x.fault(-1), -1);
        load(x, "man m 10;");
        x.text(5);
        due("not of a text() that was -2", x.fault(0), 2);
        due("its place", x.fault(1), 6);
        load(x, "man m 1;");
        due("none now", x.fault(0), 0);
        due("no place", x.fault(1), -1);
    }

    private static void p4Places() {
        promise = "promise 4, lines";
        faulty("man m 1", 1, 7);
        faulty("man m 1  ", 1, 9);
        faulty("man", 1, 3);
        faulty(";", 1, 0);
        faulty("man m 1;;", 1, 8);
        faulty("man man 1;", 1, 4);
        faulty("man hats 1;", 1, 4);
        faulty("man abcdefg 1;", 1, 4);
        faulty("changes 1;", 1, 0);
        fine("man abcdef 1;", 1);
        fine("man a1;", 1);
        faulty("man A 1;", 1, 4);
        faulty("man\tm 1;", 1, 3);
        faulty("man m\r1;", 1, 5);
        faulty("man m n 1;", 1, 6);
        faulty("man 1 m;", 1, 4);
        faulty("man m 1 1;", 1, 8);
        faulty("man m 10", 2, 6);
        fine("man m 0009;", 1);
        faulty("man m 99999999999999999999;", 2, 6);
        faulty("m 1;", 1, 0);
        faulty("way a b 1;", 4, 4);
        faulty("man a 1;way a b 1;", 4, 14);
        faulty("man a 1;way a a 1;", 5, 14);
        faulty("man a 1;man b 1;way a b 0;", 2, 24);
        faulty("man a 1;thing a 1 1;man a 2;", 3, 24);
        fine("man a 1;thing a 1 1;sees a a;", 3);
        faulty("man a 1;thing b 1 1;sees b a;", 4, 25);
        faulty("man a 1;thing b 1 1;sees a a;", 4, 27);
        faulty("man a 1;thing b 1 1;sees a b;sees a b;", 3, 36);
        faulty("man a 1;thing b 1 1;tell a b 100;", 2, 29);
        faulty("man a 1;thing b 1 1;tell b b 1;", 4, 25);
        fine("man a 1;thing b 1 1;tell a b 1;tell a b 1;", 4);
        fine("man a 1;man b 1;way a b 1;way a b 1;", 4);
        faulty("near 1;far 2;near 3;", 3, 13);
        faulty("far 1;far;", 3, 6);
        faulty("talk 101;", 2, 5);
        faulty("seed 100000;", 2, 5);
        faulty("seed 1;seed 1;", 3, 7);
        fine("near 99;far 0;talk 0;seed 99999;", 4);
        String people = "man a 1;man b 1;man c 1;man d 1;man e 1;man f 1;man g 1;";
        fine(people, 7);
        faulty(people + "man a", 2, people.length());
        String things = "thing a 1 1;thing b 1 1;thing c 1 1;thing d 1 1;thing e 1 1;thing f 1 1;";
        fine(things, 6);
        faulty(things + "thing ;", 2, things.length());
        String two = "man a 1;man b 1;thing t 1 1;";
        fine(two + many("way a b 1;", 12), 15);
        faulty(two + many("way a b 1;", 13), 2, two.length() + 120);
        fine(two + many("tell a t 1;", 12), 15);
        faulty(two + many("tell a t 1;", 13), 2, two.length() + 132);
        String sees = people + things + "sees a a;sees a b;sees a c;sees a d;sees a e;sees a f;sees b a;sees b b;sees b c;sees b d;";
        fine(sees, 23);
        faulty(sees + "sees a a;", 2, sees.length());
    }

    private static void p4Laws() {
        promise = "promise 4, laws";
        faulty("law near 1;", 1, 4);
        faulty("law fits;", 1, 8);
        faulty("law fits", 1, 8);
        faulty("law fits 1;law fits;", 3, 15);
        fine("law fits 1;law change 2;law print 3;", 3);
        faulty("law fits 1 2;", 1, 11);
        faulty("law fits 10000;", 2, 9);
        fine("law fits 9999;", 1);
        faulty("law fits 1<2<3;", 1, 12);
        fine("law fits (1<2)<3;", 1);
        fine("law fits 1<=2 and 1<>2 and 1>=2 and 1>2 and 1=2;", 1);
        faulty("law fits 1< =2;", 1, 12);
        faulty("law fits 1><2;", 1, 11);
        faulty("law fits 1=<2;", 1, 11);
        faulty("law fits 1+not 2;", 1, 11);
        faulty("law fits 1<not 2;", 1, 11);
        fine("law fits not not 1<2 or not 3;", 1);
        faulty("law fits not;", 1, 12);
        faulty("law fits 1 not 2;", 1, 11);
        faulty("law fits -1;", 1, 9);
        faulty("law fits 1+;", 1, 11);
        faulty("law fits (1;", 1, 11);
        faulty("law fits 1);", 1, 10);
        faulty("law fits ();", 1, 10);
        faulty("law fits m;", 1, 9);
        faulty("law fits man;", 1, 9);
        faulty("law fits notday;", 1, 9);
        fine("law fits 1and not 2;", 1);
        fine("law fits ((((((((1))))))));", 1);
        faulty("law fits (((((((((1)))))))));", 2, 17);
        faulty("law fits 1((((((((((;", 1, 10);
        fine("law fits ((((((((1))))))))+((((((((1))))))));", 1);
        String knots = "law fits 1" + many("+1", 31);
        fine(knots + ";", 1);
        fine(knots + ";law print (1);", 2);
        faulty(knots + ";law print 1+1;", 2, knots.length() + ";law print 1".length());
        faulty(knots + ";law print not 1;", 2, knots.length() + ";law print not ".length());
        faulty(knots + ";law print 1 1;", 1, knots.length() + ";law print 1 ".length());
        faulty(knots + ";law print 1 not;", 1, knots.length() + ";law print 1 ".length());
        faulty(knots + "+1;", 2, knots.length() + 1);
        SecondTelling x = of(knots + ";law print (1);");
        due("64 knots", x.count(4), 64);
    }

    private static void p5() {
        promise = "promise 5";
        SecondTelling x = of("man a 1;man ab 1;man zzzzzz 1;thing ab 1 1;");
        due("a", x.named(0, 1 << 25), 0);
        due("ab", x.named(0, letters("ab")), 1);
        due("zzzzzz", x.named(0, letters("zzzzzz")), 2);
        due("thing ab", x.named(1, letters("ab")), 0);
        due("thing a", x.named(1, letters("a")), -1);
        due("nothing", x.named(0, 0), -1);
        due("a lowest", x.named(0, 1), -1);
        due("below 0", x.named(0, -1), -1);
        due("two bits above", x.named(0, letters("a") | 1 << 30), -1);
        due("what 2", x.named(2, letters("ab")), -1);
        due("what -1", x.named(-1, letters("ab")), -1);
    }

    private static void p6() {
        promise = "promise 6";
        SecondTelling x = of(TOWN);
        due("day", x.thing(1, 0), 2);
        due("hats", x.thing(1, 1), 40);
        due("no news", x.thing(0, 2), -2);
        x.go(5);
        due("news", x.thing(0, 2), 3);
        due("held by all", x.thing(0, 3), 15);
        due("printed by all", x.thing(0, 4), 15);
        due("held by one", x.thing(1, 3), 8);
        due("no thing 2", thrown(x, 2, 0), 1);
        due("no thing -1", thrown(x, -1, 0), 1);
        due("no thing, no what", thrown(x, 2, 9), 1);
        due("no what 5", thrown(x, 0, 5), 2);
        due("no what -1", thrown(x, 0, -1), 2);
        due("of a new one", thrown(new SecondTelling(), 0, 0), 1);
    }

    private static void p7() {
        promise = "promise 7";
        SecondTelling x = of(TOWN);
        due("not yet", x.has(0, 0, 0), -2);
        x.go(3);
        due("hats", x.has(1, 0, 0), 12);
        due("since", x.has(1, 0, 1), 1);
        due("from", x.has(1, 0, 2), 0);
        due("by sight", x.has(0, 0, 2), -2);
        due("chain", x.has(1, 0, 3), 3);
        due("printed", x.has(1, 0, 4), 12);
        due("not printed", x.has(0, 0, 4), -2);
        due("marsh is seen on its day", x.has(3, 1, 1), 2);
        x.forget(1, 0);
        due("forgotten", x.has(1, 0, 3), -2);
        due("printed all the same", x.has(1, 0, 4), 12);
        due("what 5", x.has(1, 0, 5), -1);
        due("what -1", x.has(1, 0, -1), -1);
        due("man 4", x.has(4, 0, 0), -1);
        due("man -1", x.has(-1, 0, 0), -1);
        due("thing 2", x.has(0, 2, 0), -1);
        due("thing -1", x.has(0, -1, 4), -1);
        chainsInARing();
    }

    private static void chainsInARing() {
        SecondTelling x = of("man a 1;man b 1;man c 1;thing t 0 5;sees a t;");
        x.go(1);
        x.hear(1, 0, 0);
        x.forget(0, 0);
        x.hear(0, 1, 0);
        due("who is in it already ends it", x.has(0, 0, 3), 3);
        x.hear(2, 0, 0);
        due("behind a ring", x.has(2, 0, 3), 7);
        x.forget(1, 0);
        due("who has it no more is in it and ends it", x.has(2, 0, 3), 7);
        due("from whom", x.has(0, 0, 2), 1);
    }

    private static void p8() {
        promise = "promise 8";
        SecondTelling x = of(TOWN);
        due("di", x.bent(3), 5);
        due("cy", x.bent(2), 0);
        due("man 4", x.bent(4), -1);
        due("man -1", x.bent(-1), -1);
        due("nobody", new SecondTelling().bent(0), -1);
    }

    private static final String LAWFUL = "man a 1;man b 4;man c 0;thing t 0 5;sees a t;sees c t;way a b 1;"
            + "law change hats*100+bent*10+old;law fits apart*1000+told*100+many*10+bent;law print hats*100+apart*10+day;";

    private static void p9() {
        promise = "promise 9";
        SecondTelling x = of(LAWFUL);
        due("nobody has it", x.law(0, 0, 0, 0), ERROR);
        x.go(3);
        due("change", x.law(0, 0, 0, -7), 513);
        due("the value itself, whatever hats may be", x.law(0, 0, 1, 1), 9942);
        due("fits, whatever the chains", x.law(1, 0, 0, 1), 94034);
        due("the second one is the later one", x.law(1, 0, 1, 0), 94031);
        due("print", x.law(2, 0, 1, 0), 500 + 940 + 3);
        x.tell(0, 0);
        due("told", x.law(1, 0, 0, 1), 94134);
        due("alike", x.law(1, 0, 1, 1), ERROR);
        due("alike, print", x.law(2, 0, 1, 1), ERROR);
        due("no other", x.law(1, 0, 1, 3), ERROR);
        due("no one", x.law(0, 0, 3, 0), ERROR);
        due("no thing", x.law(0, 1, 0, 0), ERROR);
        due("no thing 32", x.law(0, 32, 0, 0), ERROR);
        due("no man 32", x.law(0, 0, 32, 0), ERROR);
        due("no what", x.law(3, 0, 0, 1), ERROR);
        due("no what below", x.law(-1, 0, 0, 1), ERROR);
        x.forget(1, 0);
        due("one hasn't it", x.law(1, 0, 0, 1), ERROR);
        due("the other one hasn't it", x.law(1, 0, 1, 0), ERROR);
        SecondTelling y = of(TOWN);
        y.go(3);
        due("no such law", y.law(0, 0, 0, 0), ERROR);
    }

    private static void value(String e, long want) {
        SecondTelling x = of("man a 3;thing t 0 7;sees a t;law change " + e + ";");
        x.go(2);
        due(e, x.law(0, 0, 0, 0), want);
    }

    private static void p9Values() {
        promise = "promise 9, values";
        value("1+2*3", 7);
        value("(1+2)*3", 9);
        value("7-2-1", 4);
        value("100/7/2", 7);
        value("(0-7)/2", -3);
        value("7/(0-2)", -3);
        value("1/0", ERROR);
        value("0 and 1/0", ERROR);
        value("1 or 1/0", ERROR);
        value("5 and 7", 1);
        value("5 and 0", 0);
        value("0 or 9", 1);
        value("0 or 0", 0);
        value("not 5", 0);
        value("not 0", 1);
        value("not not 5", 1);
        value("not 1<2", 0);
        value("not 0 and 0", 0);
        value("not (0 and 0)", 1);
        value("1 or 0 and 0", 1);
        value("(1 or 0) and 0", 0);
        value("1+1=2", 1);
        value("1<>1", 0);
        value("2<=2", 1);
        value("2>=3", 0);
        value("3>2", 1);
        value("2>2", 0);
        value("1>2", 0);
        value("3<=2", 0);
        value("2>=2", 1);
        value("1<>2", 1);
        value("1=2", 0);
        value("2<2", 0);
        value("hats*1000+bent*100+old*10+day", 7322);
        value("apart*100+many*10+told", 10);
        value("1000*1000*1000*1000", 1000000000000L);
        value("1000*1000*1000*1000+1", ERROR);
        value("1000*1000*1000*1000+1-1", ERROR);
        value("0-1000*1000*1000*1000", -1000000000000L);
        value("0-1000*1000*1000*1000-1", ERROR);
        value("(1000*1000*1000*1000)*(1000*1000*1000*1000)", ERROR);
        value("(0-1000*1000*1000*1000)*(1000*1000*1000*1000)", ERROR);
        value("(1000*1000*1000*1000)*0", 0);
        value("(1000*1000*1000*1000)/(0-1)", -1000000000000L);
        value("(0-1000*1000)*(1000*1000)", -1000000000000L);
        value("(0-1000*1000)*(1000*1000+1)", ERROR);
    }

    private static void p10() {
        promise = "promise 10";
        SecondTelling x = of("man a 9;man b 1;man c 0;thing t 0 95;thing u 9 1;sees a t;talk 0;");
        x.go(3);
        due("hats and bent modulo 100", x.hear(1, 0, 0), 4);
        due("since now", x.has(1, 0, 1), 3);
        due("from", x.has(1, 0, 2), 0);
        due("already", x.hear(1, 0, 0), -2);
        due("the other one hasn't it", x.hear(0, 1, 1), -2);
        due("alike", x.hear(1, 1, 0), -1);
        due("no man", x.hear(3, 0, 0), -1);
        due("no man to hear from", x.hear(2, 3, 0), -1);
        due("no thing", x.hear(2, 0, 2), -1);
        due("below 0", x.hear(-1, 0, 0), -1);
        due("from one who heard it", x.hear(2, 1, 0), 5);
        due("chain", x.has(2, 0, 3), 7);
        due("change at 99 at most", hearBy("hats*100"), 99);
        due("change at 0 at least", hearBy("0-5"), 0);
        due("change with an ERROR", hearBy("1/0"), 9);
        due("change by who tells", hearBy("bent"), 2);
        due("many ahead of it", hearBy("many*10+apart"), 10);
        due("change by old", hearBy("old"), 3);
    }

    private static int hearBy(String law) {
        SecondTelling x = of("man a 2;man b 5;thing t 0 7;sees a t;law change " + law + ";");
        x.go(3);
        return x.hear(1, 0, 0);
    }

    private static void p11() {
        promise = "promise 11";
        SecondTelling x = of(TOWN);
        x.go(2);
        due("hasn't it", x.tell(0, 1), -2);
        due("the first", x.tell(1, 0), 0);
        due("printed already", x.tell(1, 0), -2);
        due("no idle", x.count(10), 0);
        due("a common chain", x.tell(0, 0), 0);
        due("news", x.tell(2, 0), 1);
        due("on this day", x.thing(0, 2), 2);
        due("space", x.count(9), 1);
        due("once alone", x.tell(3, 0), 0);
        due("printed all the same", x.thing(0, 4), 15);
        due("space once", x.count(9), 1);
        due("no man", x.tell(4, 0), -1);
        due("no thing", x.tell(0, 2), -1);
        due("below 0", x.tell(0, -1), -1);
        nearAndFar(1, 9, 0, 0);
        nearAndFar(1, 9, 1, 1);
        nearAndFar(1, 9, 9, 1);
        nearAndFar(1, 9, 10, 0);
        chainAsItWas();
    }

    /** b has it by sight as 40, c as 40 and apart by a's bent through a; both are told. */
    private static void nearAndFar(int near, int far, int apart, int want) {
        SecondTelling x = of("man a 0;man b 0;man c 0;thing t 0 40;sees a t;sees b t;near " + near + ";far " + far
                + ";law change hats+" + apart + ";");
        x.go(1);
        x.hear(2, 0, 0);
        x.tell(1, 0);
        due("apart " + apart, x.tell(2, 0), want);
        SecondTelling y = of("man a 0;man b 0;man c 0;thing t 0 40;sees a t;sees b t;near " + near + ";far " + far
                + ";law change hats+" + apart + ";law fits 1/0;");
        y.go(1);
        y.hear(2, 0, 0);
        y.tell(2, 0);
        due("fits with an ERROR, apart " + apart, y.tell(1, 0), want);
    }

    /** What is PRINTED keeps the CHAIN and the HATS of its time. */
    private static void chainAsItWas() {
        SecondTelling x = of("man a 1;man b 0;man c 0;thing t 0 5;sees a t;sees c t;near 0;");
        x.go(1);
        x.hear(1, 0, 0);
        x.tell(1, 0);
        x.forget(1, 0);
        x.hear(1, 2, 0);
        due("the chain now", x.has(1, 0, 3), 6);
        due("hats now", x.has(1, 0, 0), 5);
        due("printed as", x.has(1, 0, 4), 6);
        due("joined with a then", x.tell(0, 0), 0);
        due("not joined with c then", x.tell(2, 0), 1);
    }

    private static int spaceBy(String law) {
        SecondTelling x = of("man a 3;man b 4;man c 5;thing t 0 5;sees a t;sees b t;sees c t;near 0;law print " + law + ";");
        x.go(2);
        x.tell(2, 0);
        due("news", x.tell(1, 0), 1);
        return x.count(9);
    }

    private static void p11Print() {
        promise = "promise 11, print";
        due("a number", spaceBy("77"), 77);
        due("999 at most", spaceBy("1000"), 999);
        due("0 at least", spaceBy("0-1"), 0);
        due("an ERROR", spaceBy("1/0"), 1);
        due("of the later one", spaceBy("hats*100+bent*10+old"), 542);
        due("told ahead of it", spaceBy("told*100+many*10+day"), 132);
        SecondTelling x = of("man a 0;man b 0;man c 0;thing t 0 40;sees a t;sees b t;sees c t;"
                + "law fits apart<>5;law change hats+5;law print 10+apart;near 0;");
        x.go(1);
        x.forget(0, 0);
        x.forget(1, 0);
        due("b from c", x.hear(1, 2, 0), 45);
        x.tell(1, 0);
        due("a from b", x.hear(0, 1, 0), 50);
        due("chains in common", x.tell(0, 0), 0);
        due("c, too", x.tell(2, 0), 0);
        due("no space without news", x.count(9), 0);
        apartOfTheFirstThatFits();
    }

    private static void apartOfTheFirstThatFits() {
        SecondTelling x = of("man a 0;man b 0;man c 0;man d 0;thing t 0 40;sees a t;sees b t;sees d t;"
                + "law fits apart>=3;law change hats+3+told;law print 10+apart;");
        x.go(1);
        due("c from a", x.hear(2, 0, 0), 43);
        due("b is told first", x.tell(1, 0), 0);
        due("a is unlike nobody", x.tell(0, 0), 0);
        due("c fits b alone", x.tell(2, 0), 1);
        due("by b", x.count(9), 13);
    }

    /** A NEWS of DAY 0 is one, for every call that asks. */
    private static void newsOnDayNought() {
        promise = "news on day 0";
        SecondTelling x = of("man a 1;man b 1;man c 1;thing t 0 9;sees a t;sees b t;sees c t;near 0;tell a t 0;tell b t 0;law print 7;");
        due("hush", x.hush(0), 1);
        due("when", x.when(0), 1);
        due("ahead", x.ahead(1, 0, 0), 1);
        due("tried", x.tried(4, 0, 1), 1);
        x.go(1);
        due("its day", x.thing(0, 2), 0);
        due("news", x.count(6), 1);
        due("when now", x.when(0), 0);
        due("hush now", x.hush(0), -2);
        due("no match", x.match(6), 0);
        due("ahead now", x.ahead(0, 0, 0), 1);
        due("tried now", x.tried(4, 0, 9), 0);
        due("not news again", x.tell(2, 0), 0);
        due("space once", x.count(9), 7);
        due("its day stays", x.thing(0, 2), 0);
    }

    /** What an earlier TEXT left in rows that are used again isn't looked at. */
    private static void staleRows() {
        promise = "rows used again";
        SecondTelling x = of(TOWN + "law fits 1+2*3<4 and not 5;law change hats;law print 1;");
        x.go(5);
        x.keep();
        x.see(2, 1, 0, 99, true);
        x.see(2, 1, 0, 99, true);
        x.forget(0, 0);
        due("a cut law", load(x, "law fits 1+(2*(3"), -1);
        due("text", load(x, TOWN.replace("sees ann fire;", "")), 15);
        due("ann doesn't see it now", x.hears(0, 0), -2);
        due("no law", x.law(0, 0, 0, 0), ERROR);
        due("no knots", x.count(4), 0);
        due("cy by sight", x.hears(2, 0), 1);
        x.see(2, 3, 0, 10, true);
        due("a strike where a sight was", x.strike(0), 1);
        due("all", x.bents(2), 1023);
        due("a law behind", load(x, "man a 3;thing t 0 4;sees a t;law change hats*2+1;"), 4);
        x.go(1);
        due("its value", x.law(0, 0, 0, 0), 9);
        due("four knots and one", x.count(4), 5);
    }

    private static void p12() {
        promise = "promise 12";
        SecondTelling x = of(TOWN);
        due("hasn't it", x.forget(0, 0), false);
        x.go(2);
        due("has it", x.forget(0, 0), true);
        due("no more", x.forget(0, 0), false);
        due("bo has it so on", x.has(1, 0, 0), 12);
        due("from ann", x.has(1, 0, 3), 3);
        due("no man", x.forget(4, 0), false);
        due("no thing", x.forget(0, 2), false);
        due("below 0", x.forget(-1, 0), false);
        x.go(1);
        due("things are seen on their day alone", x.has(0, 0, 0), -2);
        SecondTelling y = of("man a 1;man b 3;thing t 1 9;sees a t;way a b 1;way b a 1;");
        y.go(3);
        y.forget(0, 0);
        y.go(1);
        due("told back to him", y.has(0, 0, 0), 9 + 1 + 3);
    }

    private static void p13() {
        promise = "promise 13";
        SecondTelling x = of(TOWN);
        due("0", x.go(0), 0);
        due("200", x.go(200), 200);
        due("201", x.go(201), -1);
        due("-1", x.go(-1), -1);
        due("none went by", x.count(5), 200);
        for (int i = 2; i <= 49; i++) {
            due("on", x.go(200), 200 * i);
        }
        due("behind 9800", x.go(1), -1);
        due("9800 itself", x.go(0), 9800);
        SecondTelling y = of(TOWN);
        y.go(5);
        due("idle", y.count(10), 0);
        due("printed", y.count(8), 4);
        due("news on day 3", y.thing(0, 2), 3);
        SecondTelling z = of("man a 1;man b 1;thing t 1 9;sees a t;way a b 2;tell b t 2;tell b t 3;tell b t 4;tell a t 0;");
        z.go(1);
        due("a tell of nothing is idle", z.count(10), 1);
        z.go(2);
        due("so is one too early", z.count(10), 2);
        due("not heard ahead of its days", z.has(1, 0, 0), -2);
        z.go(1);
        due("heard behind two days", z.has(1, 0, 1), 3);
        due("told on the same day", z.has(1, 0, 4), 10);
        z.go(1);
        due("printed already is idle", z.count(10), 3);
        laterWaysOfOneDay();
    }

    /** The first WAY wins; what one hears on a DAY goes on behind a DAY at least. */
    private static void laterWaysOfOneDay() {
        SecondTelling x = of("man a 1;man b 2;man c 3;man d 0;thing t 0 9;sees a t;sees b t;way b c 1;way a c 1;way c d 1;");
        x.go(2);
        due("by the first way", x.has(2, 0, 2), 1);
        due("hats", x.has(2, 0, 0), 11);
        due("not on the same day", x.has(3, 0, 0), -2);
        x.go(1);
        due("the day behind it", x.has(3, 0, 0), 14);
    }

    /** Draws as the document tells them, worked out here by longs. */
    private static void p13Numbers() {
        promise = "promise 13, numbers";
        for (int seed = 0; seed < 40; seed++) {
            SecondTelling x = of("man a 1;man b 2;man c 3;thing t 0 9;thing u 0 9;sees a t;sees a u;"
                    + "way a b 1;way a c 1;talk 37;seed " + seed * 2503 + ";");
            x.go(1);
            long number = seed * 2503;
            boolean[] has = new boolean[4];
            for (int day = 1; day < 6; day++) {
                x.go(1);
                for (int i = 0; i < 4; i++) {
                    if (!has[i]) {
                        number = (number * 1103515245L + 12345L) % 2147483648L;
                        has[i] = number / 65536 % 100 < 37;
                    }
                    due("seed " + seed + " day " + day, x.has(1 + i / 2, i % 2, 0) >= 0, has[i]);
                }
            }
        }
        SecondTelling never = of("man a 1;man b 2;thing t 0 9;sees a t;way a b 1;talk 0;");
        never.go(100);
        due("talk 0", never.has(1, 0, 0), -2);
    }

    private static void p14() {
        promise = "promise 14";
        SecondTelling x = of(TOWN);
        due("none", x.ahead(0, 1, 0), 0);
        due("a day", x.ahead(1, 1, 0), 2);
        due("two", x.ahead(2, 1, 0), 4);
        due("marsh", x.ahead(200, 1, 1), 1);
        due("news", x.ahead(4, 0, -9), 1);
        due("space", x.ahead(4, 2, 99), 1);
        due("idle", x.ahead(5, 3, 99), 0);
        due("nothing went by", x.count(5), 0);
        x.go(5);
        due("news then, all", x.ahead(1, 0, 0), 1);
        due("space more", x.ahead(1, 2, 0), 0);
        due("no thing", x.ahead(1, 1, 2), -1);
        due("what 4", x.ahead(1, 4, 0), -1);
        due("what -1", x.ahead(1, -1, 0), -1);
        due("201", x.ahead(201, 0, 0), -1);
        due("-1", x.ahead(-1, 0, 0), -1);
        asItGoes(49, -2);
        asItGoes(50, 2);
        asItGoes(0, -2);
        asItGoes(100, 2);
        SecondTelling z = of("man a 1;thing t 3 9;tell a t 0;tell a t 1;tell a t 4;");
        z.go(1);
        due("idle more", z.ahead(9, 3, 0), 2);
    }

    private static void asItGoes(int talk, int want) {
        SecondTelling x = of("man a 1;man b 2;thing t 0 9;sees a t;way a b 1;seed 7;talk " + talk + ";");
        due("as it goes with talk " + talk, x.hears(1, 0), want);
        due("ahead", x.ahead(3, 1, 0), want == 2 ? 2 : 1);
    }

    private static void p15() {
        promise = "promise 15";
        SecondTelling x = of(TOWN);
        due("fire", x.when(0), 4);
        due("marsh", x.when(1), -2);
        due("no thing", x.when(2), -1);
        due("below 0", x.when(-1), -1);
        x.go(1);
        due("a day less", x.when(0), 3);
        x.go(3);
        due("it is", x.when(0), 0);
        due("nothing went by", x.count(5), 4);
        SecondTelling y = of("man a 1;man b 2;thing t 0 9;sees a t;sees b t;near 0;tell a t 0;tell b t 99;");
        due("the last day of a tell", y.when(0), 100);
    }

    private static void p16() {
        promise = "promise 16";
        SecondTelling x = of(TOWN);
        due("ann", x.hears(0, 0), 1);
        due("bo", x.hears(1, 0), 2);
        due("ann, marsh", x.hears(0, 1), -2);
        due("di, marsh", x.hears(3, 1), 3);
        x.go(1);
        due("he has", x.hears(0, 0), 0);
        due("no man", x.hears(4, 0), -1);
        due("no thing", x.hears(0, 2), -1);
        due("below 0", x.hears(-1, 0), -1);
        // seen on day 99, then 13 WAYS at most of 9 days: far below 199, so the edge is tried by a start on day 99
        SecondTelling y = of("man a 1;man b 1;man c 1;man d 1;man e 1;man f 1;man g 1;thing t 99 1;sees a t;"
                + "way a b 9;way b c 9;way c d 9;way d e 9;way e f 9;way f g 9;");
        due("far", y.hears(6, 0), 99 + 54 + 1);
        SecondTelling z = of("man a 1;man b 1;thing t 0 1;sees a t;way a b 1;");
        z.go(3);
        z.forget(0, 0);
        z.forget(1, 0);
        due("never again", z.hears(1, 0), -2);
    }

    private static void p17() {
        promise = "promise 17";
        SecondTelling x = of(TOWN);
        due("not yet", x.joined(0, 1, 0), -2);
        x.go(2);
        due("ann, bo", x.joined(0, 1, 0), 1);
        due("bo, cy", x.joined(1, 2, 0), 0);
        due("cy, di", x.joined(3, 2, 0), 1);
        due("one hasn't it", x.joined(0, 1, 1), -2);
        due("alike", x.joined(0, 0, 0), -1);
        due("no man", x.joined(0, 4, 0), -1);
        due("no man below", x.joined(-1, 0, 0), -1);
        due("no thing", x.joined(0, 1, 2), -1);
        x.forget(0, 0);
        due("ann has it no more", x.joined(0, 1, 0), -2);
        x.hear(0, 1, 0);
        due("joined in a ring", x.joined(0, 1, 0), 1);
    }

    private static void p18() {
        promise = "promise 18";
        SecondTelling x = of(TOWN);
        due("nobody", x.pairs(0), 0);
        x.go(2);
        due("bo and cy, bo and di", x.pairs(0), 2);
        due("no thing", x.pairs(2), -1);
        due("below 0", x.pairs(-1), -1);
        SecondTelling y = of("man a 1;man b 2;man c 3;thing t 0 9;sees a t;sees b t;sees c t;law fits bent=3;");
        y.go(1);
        due("the greater number is the later one", y.pairs(0), 2);
        SecondTelling z = of("man a 1;man b 2;man c 3;thing t 0 9;sees a t;sees b t;sees c t;law fits told=1;");
        z.go(1);
        due("nothing told", z.pairs(0), 0);
        z.tell(0, 0);
        due("one told", z.pairs(0), 3);
    }

    private static void p19() {
        promise = "promise 19";
        SecondTelling x = of(TOWN + "talk 0;");
        due("ann", x.reach(0), 15);
        due("bo", x.reach(1), 14);
        due("di", x.reach(3), 8);
        due("no man", x.reach(4), -1);
        due("below 0", x.reach(-1), -1);
        SecondTelling y = of("man a 1;man b 1;man c 1;man d 1;man e 1;man f 1;man g 1;"
                + "way f g 1;way e f 1;way d e 1;way c d 1;way b c 1;way a b 1;");
        due("ways told from the last one on", y.reach(0), 127);
    }

    private static void p20() {
        promise = "promise 20";
        SecondTelling x = of(TOWN);
        due("ann", x.hush(0), 1);
        due("marsh", x.hush(1), 0);
        due("no thing", x.hush(2), -1);
        due("below 0", x.hush(-1), -1);
        x.go(4);
        due("news already", x.hush(0), -2);
        String four = "man a 0;man b 0;man c 0;man d 0;thing t 0 9;sees a t;sees b t;sees c t;sees d t;near 0;";
        due("all but one", of(four + "tell a t 1;tell b t 1;tell c t 1;tell d t 1;").hush(0), 7);
        due("of several the least", of(four + "tell d t 1;tell c t 1;").hush(0), 4);
        due("day 59 is within", of(four + "tell a t 1;tell b t 59;").hush(0), 1);
        due("day 60 isn't", of(four + "tell a t 1;tell b t 60;").hush(0), 0);
        due("they hear", of("man a 1;man b 0;man c 0;thing t 0 9;sees a t;sees c t;way a b 1;tell b t 3;tell c t 3;").hush(0), 1);
        due("nobody", of("thing t 0 9;").hush(0), 0);
        due("nothing went by", x.count(5), 4);
    }

    private static void p21() {
        promise = "promise 21";
        due("nobody", new SecondTelling().spread(), 0);
        due("ann", of(TOWN).spread(), 1);
        due("all alone", of("man a 1;man b 1;man c 1;").spread(), 7);
        due("the least of several", of("man a 1;man b 1;man c 1;way a b 1;way b a 1;").spread(), 5);
        due("a later one", of("man a 1;man b 1;man c 1;way c a 1;way a b 1;").spread(), 4);
        due("reaches in common", of("man a 1;man b 1;man c 1;way a b 1;way c b 1;").spread(), 5);
        due("two", of("man a 1;man b 1;man c 1;man d 1;way d a 1;way d b 1;").spread(), 12);
    }

    private static void p22() {
        promise = "promise 22";
        SecondTelling x = of(TOWN);
        due("nothing", x.lone(), 0);
        x.go(3);
        due("marsh", x.lone(), 2);
        x.forget(0, 0);
        x.forget(1, 0);
        x.forget(2, 0);
        due("both", x.lone(), 3);
        x.forget(3, 1);
        due("fire", x.lone(), 1);
    }

    private static void p23() {
        promise = "promise 23";
        String all = "man a 0;man b 0;man c 0;man d 0;thing t 0 9;thing u 0 9;thing v 0 9;sees a t;sees b t;sees c t;"
                + "sees a u;sees d u;sees d t;sees d v;sees b v;near 0;";
        SecondTelling x = of(all);
        x.go(1);
        due("nothing is told", x.match(6), 0);
        x.tell(0, 0);
        due("with the first one's telling", x.match(0), 1);
        x.undo();
        x.tell(3, 0);
        due("one of t", x.match(6), 1);
        due("the first one", x.match(0), 0);
        due("none of u", x.match(1), -2);
        x.tell(3, 1);
        due("two", x.match(6), 2);
        due("t has b, for u has a alone", x.match(0), 1);
        due("u", x.match(1), 0);
        x.tell(3, 2);
        due("three", x.match(6), 3);
        due("t has c", x.match(0), 2);
        due("u has a", x.match(1), 0);
        due("v has b", x.match(2), 1);
        due("there are not so many", x.match(3), -2);
        due("nor 5", x.match(5), -2);
        due("what 7", x.match(7), -1);
        due("what -1", x.match(-1), -1);
        x.forget(2, 0);
        due("two again", x.match(6), 2);
        due("the first by things", x.match(0), 0);
        due("none for u", x.match(1), -2);
        due("v", x.match(2), 1);
        x.tell(1, 0);
        due("t is news", x.match(0), -2);
        due("u then", x.match(1), 0);
        due("nothing is told by this", x.thing(1, 4), 8);
        due("a new one", new SecondTelling().match(0), -2);
    }

    private static void p24() {
        promise = "promises 24, 25";
        SecondTelling x = of(TOWN);
        due("not yet", x.rests(0, 1, 0), -2);
        due("rest not yet", x.rest(0, 1, 0, 0), -2);
        x.go(2);
        due("they fit", x.rests(1, 2, 0), 1);
        due("the other way", x.rests(2, 1, 0), 1);
        due("both tell", x.rest(1, 2, 0, 0), 0);
        due("no second", x.rest(1, 2, 0, 1), -2);
        due("they don't", x.rests(0, 1, 0), 2);
        due("one tells", x.rest(0, 1, 0, 0), 1);
        due("the other one tells", x.rest(0, 1, 0, 1), 10);
        due("no third", x.rest(0, 1, 0, 2), -2);
        due("far", x.rest(0, 1, 0, Integer.MAX_VALUE), -2);
        x.forget(3, 0);
        due("the second one hasn't it", x.rests(0, 3, 0), -2);
        due("the first one hasn't it", x.rests(3, 0, 0), -2);
        due("rest, the second one hasn't it", x.rest(0, 3, 0, 0), -2);
        due("rest, the first one hasn't it", x.rest(3, 0, 0, 0), -2);
        due("k below 0", x.rest(0, 1, 0, -1), -1);
        due("k below 0, nobody has it", x.rest(0, 1, 1, -1), -1);
        due("alike", x.rests(1, 1, 0), -1);
        due("rest alike", x.rest(1, 1, 0, 0), -1);
        due("no man", x.rests(1, 4, 0), -1);
        due("rest no man", x.rest(-1, 1, 0, 0), -1);
        due("no thing", x.rests(1, 2, 2), -1);
        due("rest no thing", x.rest(1, 2, -1, 0), -1);
        SecondTelling y = of("man a 1;man b 2;thing t 0 9;sees a t;sees b t;law fits bent=2;");
        y.go(1);
        due("the greater number is the later one", y.rests(1, 0, 0), 1);
    }

    private static void p26() {
        promise = "promise 26";
        SecondTelling x = of("talk 60;");
        due("of none", x.silent(0, 0), 1);
        due("of none, below", x.silent(0, 1), 1);
        due("of three", x.silent(3, 0), 8);
        due("of three, below", x.silent(3, 1), 125);
        due("n -1", x.silent(-1, 0), -1);
        due("n 7", x.silent(7, 0), -1);
        due("what 2", x.silent(1, 2), -1);
        due("what -1", x.silent(1, -1), -1);
        SecondTelling y = of("talk 1;");
        due("99 to the 6", y.silent(6, 0), 941480149401L);
        due("100 to the 6", y.silent(6, 1), 1000000000000L);
        SecondTelling all = of("talk 100;");
        due("never silent", all.silent(2, 0), 0);
        due("in least terms", all.silent(2, 1), 1);
        due("but of none", all.silent(0, 0), 1);
        SecondTelling none = of("talk 0;");
        due("always silent", none.silent(6, 0), 1);
        due("always silent, below", none.silent(6, 1), 1);
    }

    private static void p27() {
        promise = "promise 27";
        SecondTelling x = of(TOWN);
        due("the first", x.see(1, 0, 0, 0, true), 0);
        due("the second", x.see(60, 3, 1, 99, false), 1);
        due("days 0", x.see(0, 0, 0, 0, true), -1);
        due("days 61", x.see(61, 0, 0, 0, true), -1);
        due("hats -1", x.see(1, 0, 0, -1, true), -1);
        due("hats 100", x.see(1, 0, 0, 100, true), -1);
        due("no man", x.see(1, 4, 0, 0, true), -1);
        due("no thing", x.see(1, 0, 2, 0, true), -1);
        due("below 0", x.see(1, -1, 0, 0, true), -1);
        for (int i = 2; i < 24; i++) {
            due("on", x.see(1, 0, 0, 10, true), i);
        }
        due("a 25th", x.see(1, 0, 0, 10, true), -1);
        due("nor strikes it", x.strike(0), -1);
        due("24", x.count(11), 24);
    }

    private static void p28() {
        promise = "promise 28";
        SecondTelling x = of(TOWN);
        due("nothing to strike", x.strike(0), -1);
        x.see(2, 1, 0, 13, true);
        due("bo's hats are ann's bending", x.bents(0), 8);
        due("a strike", x.strike(0), 1);
        due("struck", x.bents(0), 1023);
        due("the strike is struck", x.strike(1), 2);
        due("so it counts", x.bents(0), 8);
        due("the second strike is struck", x.strike(2), 3);
        due("so it doesn't", x.bents(0), 1023);
        due("no such", x.strike(4), -1);
        due("below 0", x.strike(-1), -1);
        due("four", x.count(11), 4);
    }

    private static void p29() {
        promise = "promise 29";
        SecondTelling x = of(TOWN);
        due("none there are", x.known(1), false);
        due("by none", x.known(0), true);
        due("count", x.count(12), 0);
        x.see(2, 1, 0, 13, true);
        x.strike(0);
        due("still by none", x.count(12), 0);
        due("by none all is possible", x.bents(0), 1023);
        due("by one", x.known(1), true);
        due("a strike behind doesn't count", x.bents(0), 8);
        due("by two", x.known(2), true);
        due("it does", x.bents(0), 1023);
        due("by three", x.known(3), false);
        due("below -1", x.known(-2), false);
        due("stays by two", x.count(12), 2);
        x.see(2, 1, 0, 13, true);
        due("still by two", x.bents(0), 1023);
        due("by all", x.known(-1), true);
        due("by three then", x.count(12), 3);
        due("the third counts", x.bents(0), 8);
        x.see(2, 1, 0, 13, false);
        due("also those to come", x.bents(0), 0);
    }

    private static void p30() {
        promise = "promise 30";
        SecondTelling x = of(TOWN);
        due("all", x.bents(0), 1023);
        x.see(2, 1, 0, 12, false);
        due("all but 2", x.bents(0), 1019);
        due("of another one none: it is so by ann's own", x.bents(1), 0);
        due("no man", x.bents(4), -1);
        due("below 0", x.bents(-1), -1);
        SecondTelling y = of(TOWN);
        y.see(1, 1, 0, 12, false);
        due("hadn't it: it wasn't so", y.bents(0), 1023);
        y.see(1, 1, 0, 12, true);
        due("hadn't it: it isn't so", y.bents(0), 0);
        SecondTelling z = of(TOWN);
        z.go(1);
        z.forget(0, 0);
        z.go(5);
        z.see(2, 1, 0, 12, true);
        due("from the text on, nothing done by call", z.bents(0), 4);
        SecondTelling w = of("man a 1;man b 1;man c 1;thing t 0 9;sees a t;way a b 1;way b c 1;law change hats+bent*bent;");
        w.see(60, 2, 0, 10 + 16, true);
        due("bent of the law, too", w.bents(1), 16);
        due("of another one who tells it, too", w.bents(0), 16);
        due("of one who tells nobody", w.bents(2), 0);
    }

    private static void p31() {
        promise = "promise 31";
        SecondTelling x = of(TOWN);
        due("ask bo of ann", x.ask(0, 0, 0), 1);
        due("one left", x.ask(0, 0, 1), 1);
        due("di of di: nobody tells", x.ask(3, 0, 0), 0);
        due("ten left", x.ask(3, 0, 1), 10);
        due("what 2", x.ask(0, 0, 2), -1);
        due("what -1", x.ask(0, 0, -1), -1);
        due("no man", x.ask(4, 0, 0), -1);
        due("no thing", x.ask(0, 2, 0), -1);
        x.see(2, 1, 0, 12, true);
        x.see(2, 1, 0, 12, false);
        SecondTelling own = of("man a 1;man b 1;thing t 0 9;sees b t;way b a 1;");
        due("the first one may be asked", own.ask(1, 0, 0), 0);
        due("one is left", own.ask(1, 0, 1), 1);
        own.see(2, 0, 0, 9, true);
        due("bent 0 alone", own.bents(1), 1);
        due("it is left", own.ask(1, 0, 1), 1);
        due("no bents left: person 0", x.ask(0, 0, 0), 0);
        due("none left", x.ask(0, 0, 1), 0);
        SecondTelling y = of("man a 1;man b 1;man c 1;thing t 0 9;sees a t;way a b 9;way b c 9;law change hats+bent/3;");
        due("bents in four groups, 3 at most", y.ask(0, 0, 1), 3);
        due("of b", y.ask(0, 0, 0), 1);
        due("of b's own: ask c", y.ask(1, 0, 0), 2);
        SecondTelling z = of("man a 1;man b 1;man c 1;man d 1;thing t 3 9;sees a t;way a b 8;way b c 9;");
        due("behind 20 days c hasn't it yet", z.ask(1, 0, 1), 10);
        SecondTelling w = of("man a 1;man b 1;man c 1;man d 1;thing t 2 9;sees a t;way a b 8;way b c 9;");
        due("or has it on day 19", w.ask(1, 0, 1), 1);
    }

    private static void p32() {
        promise = "promise 32";
        SecondTelling x = of("man a 1;man b 2;man c 2;thing t 0 9;thing u 0 9;sees a t;sees a u;way a b 1;way b c 1;talk 30;");
        x.go(1);
        for (int seed = 1; seed > 0 && seed < 2000000000; seed = seed * 7 + 1) {
            due("seed " + seed, x.chance(seed, 3, 1, 1), drawn(seed));
        }
        due("seed of all bits", x.chance(Integer.MAX_VALUE, 3, 1, 1), drawn(Integer.MAX_VALUE));
        due("seed 0", x.chance(0, 3, 1, 1), drawn(0));
        due("he has", x.chance(0, 1, 0, 0), 10);
        due("seed -1", x.chance(-1, 3, 1, 1), -1);
        due("n 0", x.chance(1, 0, 1, 1), -1);
        due("n 100", x.chance(1, 100, 1, 1), -1);
        due("n 99", x.chance(1, 99, 1, 1), 10);
        due("no man", x.chance(1, 3, 3, 1), -1);
        due("no thing", x.chance(1, 3, 1, 2), -1);
        due("nothing went by", x.count(5), 1);
        due("nobody heard", x.count(7), 2);
    }

    /** b hears t, u from a, c from b, three days from day 1 on; ten times, one number behind another. */
    private static int drawn(long seed) {
        long number = seed;
        int times = 0;
        for (int time = 0; time < 10; time++) {
            int[][] since = {{0, 0}, {99, 99}, {99, 99}};
            for (int day = 1; day <= 3; day++) {
                for (int way = 0; way < 2; way++) {
                    for (int thing = 0; thing < 2; thing++) {
                        if (day - since[way][thing] >= 1 && since[way + 1][thing] == 99) {
                            number = (number * 1103515245L + 12345L) % 2147483648L;
                            if (number / 65536 % 100 < 30) {
                                since[way + 1][thing] = day;
                            }
                        }
                    }
                }
            }
            times += since[1][1] < 99 ? 1 : 0;
        }
        return times;
    }

    private static void p33() {
        promise = "promise 33";
        String text = "man a 0;man b 3;man c 0;thing t 0 9;thing u 0 9;sees a t;sees c t;way a b 1;tell b t 2;tell c t 2;near 0;far 0;";
        due("as it goes", of(text).ahead(9, 0, 0), 1);
        due("always", of(text + "talk 10;").tried(0, 0, 9), 1);
        due("as it goes with little talk", of(text + "talk 10;").ahead(9, 0, 0), 0);
        due("never", of(text).tried(1, 0, 9), 0);
        due("nothing from a", of(text).tried(2, 0, 9), 0);
        due("nothing from b", of(text).tried(2, 1, 9), 1);
        due("bent 0", of(text.replace("a 0;man", "a 5;man")).tried(3, 0, 9), 1);
        due("bent 5", of(text.replace("a 0;man", "a 5;man")).ahead(9, 0, 0), 0);
        due("bent of a law", of(text + "law fits bent=3;").tried(3, 0, 9), 0);
        due("fits isn't asked", of(text + "law fits 0;").tried(4, 0, 9), 1);
        due("near, far aren't either", of(text.replace("a 0;man", "a 5;man")).tried(4, 0, 9), 1);
        due("chains are looked at", of(text + "tell a t 2;law fits 0;").tried(4, 0, 9), 1);
        due("chains alone", of(text.replace("tell c", "tell a")).tried(4, 0, 9), 0);
        SecondTelling x = of(text);
        due("too few days", x.tried(0, 0, 2), 0);
        due("enough", x.tried(0, 0, 3), 1);
        due("none", x.tried(0, 0, 0), 0);
        due("200", x.tried(0, 0, 200), 1);
        due("201", x.tried(0, 0, 201), -1);
        due("-1", x.tried(0, 0, -1), -1);
        due("what 5", x.tried(5, 0, 1), -1);
        due("what -1", x.tried(-1, 0, 1), -1);
        due("i 1 of 0", x.tried(0, 1, 1), -1);
        due("i 1 of 3", x.tried(3, 1, 1), -1);
        due("i 3 of 2", x.tried(2, 3, 1), -1);
        due("i -1 of 2", x.tried(2, -1, 1), -1);
        x.go(3);
        due("more", x.tried(0, 0, 200), 0);
    }

    private static void p34() {
        promise = "promise 34";
        SecondTelling x = of(TOWN);
        due("none", x.undo(), -1);
        x.go(2);
        x.forget(1, 0);
        x.hear(1, 2, 0);
        x.tell(1, 0);
        x.tell(0, 0);
        due("four", x.count(13), 4);
        due("what fails isn't one", x.tell(0, 0), -2);
        due("four still", x.count(13), 4);
        due("a tell", x.undo(), 3);
        due("not printed", x.thing(0, 4), 2);
        due("no news", x.thing(0, 2), -2);
        due("no space", x.count(9), 0);
        due("another tell", x.undo(), 2);
        due("nothing printed", x.count(8), 0);
        due("a hear", x.undo(), 1);
        due("he hasn't it", x.has(1, 0, 0), -2);
        due("a forget", x.undo(), 0);
        due("hats as they were", x.has(1, 0, 0), 12);
        due("since", x.has(1, 0, 1), 1);
        due("from", x.has(1, 0, 2), 0);
        due("none left", x.undo(), -1);
        x.tell(1, 0);
        x.go(0);
        due("no day went by", x.count(13), 1);
        x.go(1);
        due("one did", x.undo(), -1);
        SecondTelling y = of(TOWN);
        y.go(2);
        for (int i = 0; i < 12; i++) {
            y.forget(3, 0);
            y.hear(3, 2, 0);
        }
        due("20 at most", y.count(13), 20);
        for (int i = 19; i >= 0; i--) {
            due("on", y.undo(), i);
        }
        due("behind the twentieth", y.undo(), -1);
        due("heard on day 2 by call", y.has(3, 0, 1), 2);
    }

    private static void p35() {
        promise = "promise 35";
        SecondTelling x = of(TOWN);
        due("day 0", x.keep(), 0);
        x.go(2);
        due("day 2", x.keep(), 2);
        x.go(3);
        due("in place of the one ahead", x.back(), 2);
        x.tell(1, 0);
        x.keep();
        due("what can be undone stays", x.undo(), 0);
        due("printed then", x.back(), 2);
        due("the image isn't touched", x.count(8), 1);
        due("nothing to undo", x.undo(), -1);
    }

    private static void p36() {
        promise = "promise 36";
        SecondTelling x = of("man a 1;man b 2;thing t 0 9;thing u 0 9;sees a t;sees a u;way a b 1;tell b t 3;tell a t 2;talk 50;seed 5;near 0;");
        due("none", x.back(), -1);
        x.go(1);
        x.keep();
        x.go(3);
        int held = x.count(7);
        x.see(1, 0, 0, 9, true);
        x.known(0);
        due("back", x.back(), 1);
        due("day", x.count(5), 1);
        due("held", x.count(7), 2);
        due("printed", x.count(8), 0);
        due("idle", x.count(10), 0);
        due("seen stays", x.count(11), 1);
        due("known stays", x.count(12), 0);
        x.go(3);
        due("the same numbers", x.count(7), held);
        x.forget(0, 0);
        due("again", x.back(), 1);
        due("has it", x.has(0, 0, 0), 9);
        due("nothing to undo", x.undo(), -1);
    }

    private static void p37() {
        promise = "promise 37";
        SecondTelling x = of(TOWN + "law fits hats+1;tell ann marsh 1;");
        x.go(5);
        x.see(1, 0, 0, 9, true);
        x.see(1, 0, 0, 9, true);
        x.known(1);
        x.forget(0, 0);
        int[] want = {4, 2, 3, 5, 3, 5, 1, 4, 4, 1, 1, 2, 1, 1};
        for (int what = 0; what < want.length; what++) {
            due("count " + what, x.count(what), want[what]);
        }
        due("what 14", x.count(14), -1);
        due("what -1", x.count(-1), -1);
    }
}
