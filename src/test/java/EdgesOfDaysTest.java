/** Promises 6 to 13, sentence by sentence: who has what, laws, hearing, telling, forgetting, days, at their edges. */
public final class EdgesOfDaysTest extends Check {
    private static final String ALL_SEE = SEVEN + "thing t 0 9;sees a t;sees b t;sees c t;sees d t;sees e t;sees f t;sees g t;";
    /** a and b by sight, c by nobody yet. */
    private static final String THREE = "man a 0;man b 0;man c 0;thing t 0 40;sees a t;sees b t;";

    public static void main(String[] args) throws Exception {
        runAll(EdgesOfDaysTest.class, 6, 13);
    }

    // ---------------------------------------------------------------- 6

    @Says("IndexOutOfBoundsException: no such THING")
    static void promise6_noThingBehindTheLast() {
        SecondTelling x = of(TOWN);
        due("the last", thrown(x, 1, 0), 0);
        due("behind it", thrown(x, 2, 0), 1);
        due("a seventh", thrown(of(SIX), 6, 0), 1);
        due("the sixth", thrown(of(SIX), 5, 0), 0);
        due("32", thrown(x, 32, 0), 1);
        due("far", thrown(x, Integer.MAX_VALUE, 0), 1);
    }

    @Says("IndexOutOfBoundsException: no such THING")
    static void promise6_noThingBelow0() {
        SecondTelling x = of(TOWN);
        due("-1", thrown(x, -1, 0), 1);
        due("far below", thrown(x, Integer.MIN_VALUE, 0), 1);
    }

    @Says("IndexOutOfBoundsException: no such THING")
    static void promise6_noThingWithoutLines() {
        due("of a new one", thrown(new SecondTelling(), 0, 0), 1);
        SecondTelling x = of(TOWN);
        x.text(0);
        due("behind an empty text", thrown(x, 0, 0), 1);
    }

    @Says("NoSuchElementException: no such what")
    static void promise6_noOtherWhat() {
        SecondTelling x = of(TOWN);
        due("4", thrown(x, 0, 4), 0);
        due("5", thrown(x, 0, 5), 2);
        due("-1", thrown(x, 0, -1), 2);
        due("far", thrown(x, 0, Integer.MAX_VALUE), 2);
        due("far below", thrown(x, 0, Integer.MIN_VALUE), 2);
    }

    @Says("2 the DAY on which it was NEWS (-2: it isn't)")
    static void promise6_itIsNoNews() {
        SecondTelling x = of(TOWN);
        due("at first", x.thing(0, 2), -2);
        x.go(3);
        due("with one telling", x.thing(0, 2), -2);
        x.go(1);
        due("then", x.thing(0, 2), 3);
    }

    @Says("2 the DAY on which it was NEWS (-2: it isn't)")
    static void promise6_newsOfDay0IsNews() {
        SecondTelling x = of(THREE + "near 0;tell a t 0;tell b t 0;", 1);
        due("day 0", x.thing(0, 2), 0);
        due("it is one", x.count(6), 1);
    }

    @Says("3 PEOPLE (bits) who HAVE it")
    static void promise6_nobodyAndAllHaveIt() {
        SecondTelling x = of(ALL_SEE);
        due("nobody", x.thing(0, 3), 0);
        x.go(1);
        due("all seven", x.thing(0, 3), 127);
    }

    @Says("4 PEOPLE (bits) whose TELLINGS of it are PRINTED")
    static void promise6_nobodysAndAllAreTold() {
        SecondTelling x = of(ALL_SEE, 1);
        due("nobody's", x.thing(0, 4), 0);
        for (int man = 0; man < 7; man++) {
            x.tell(man, 0);
        }
        due("all seven", x.thing(0, 4), 127);
    }

    // ---------------------------------------------------------------- 7

    @Says("-2 of 0 .. 3: he hasn't it")
    static void promise7_heHasntIt() {
        SecondTelling x = of(TOWN, 1);
        for (int what = 0; what <= 3; what++) {
            due("bo, what " + what, x.has(1, 0, what), -2);
        }
        x.forget(0, 0);
        for (int what = 0; what <= 3; what++) {
            due("ann has it no more, what " + what, x.has(0, 0, what), -2);
        }
    }

    @Says("4 HATS of the TELLING that is PRINTED (-2: none is)")
    static void promise7_noneIsPrinted() {
        SecondTelling x = of(TOWN, 1);
        due("he hasn't it", x.has(1, 0, 4), -2);
        due("he has it", x.has(0, 0, 4), -2);
        x.tell(0, 0);
        due("one is", x.has(0, 0, 4), 10);
        x.forget(0, 0);
        due("it is so on", x.has(0, 0, 4), 10);
        due("cy's isn't", x.has(2, 0, 4), -2);
        x.tell(2, 0);
        due("cy's is", x.has(2, 0, 4), 10);
    }

    @Says("2 FROM whom (-2: by sight)")
    static void promise7_bySight() {
        due("ann", of(TOWN, 1).has(0, 0, 2), -2);
    }

    @Says("what 0 as how many HATS, 1 SINCE which DAY, 2 FROM whom")
    static void promise7_noughtIsAnAnswer() {
        SecondTelling x = of("man a 0;man b 0;thing t 0 0;sees a t;", 1);
        due("no hats", x.has(0, 0, 0), 0);
        due("since day 0", x.has(0, 0, 1), 0);
        x.tell(0, 0);
        due("printed as none", x.has(0, 0, 4), 0);
        x.hear(1, 0, 0);
        due("from the first one", x.has(1, 0, 2), 0);
    }

    @Says("NONE: no such ones")
    static void promise7_noSuchOnes() {
        SecondTelling x = of(TOWN, 2);
        due("man 4", x.has(4, 0, 0), -1);
        due("thing 2", x.has(0, 2, 0), -1);
        due("what 5", x.has(0, 0, 5), -1);
        due("man 4 printed", x.has(4, 0, 4), -1);
        due("man 0 of thing 6", x.has(0, 6, 0), -1);
        for (int none : NO_NUMBERS) {
            due("man " + none, x.has(none, 0, 0), -1);
            due("thing " + none, x.has(0, none, 0), -1);
            due("what " + none, x.has(0, 0, none), -1);
        }
    }

    @Says("till one by sight or one who HAS it no more (they are in it, too)")
    static void promise7_aChainOfOneAlone() {
        due("ann alone", of(TOWN, 1).has(0, 0, 3), 1);
        due("cy alone", of(TOWN, 1).has(2, 0, 3), 4);
    }

    @Says("till one by sight or one who HAS it no more (they are in it, too)")
    static void promise7_whoHasItNoMoreEndsAChain() {
        SecondTelling x = of("man a 0;man b 0;man c 0;thing t 0 5;sees a t;", 1);
        x.hear(1, 0, 0);
        x.hear(2, 1, 0);
        due("all three", x.has(2, 0, 3), 7);
        x.forget(1, 0);
        due("b is in it, a isn't", x.has(2, 0, 3), 6);
        x.forget(0, 0);
        due("the same without a", x.has(2, 0, 3), 6);
    }

    @Says("or one who is in it already")
    static void promise7_aRingEndsAChain() {
        SecondTelling x = of("man a 0;man b 0;man c 0;man d 0;thing t 0 5;sees a t;", 1);
        x.hear(1, 0, 0);
        x.hear(2, 1, 0);
        x.forget(0, 0);
        x.hear(0, 2, 0);
        due("a", x.has(0, 0, 3), 7);
        due("b", x.has(1, 0, 3), 7);
        due("c", x.has(2, 0, 3), 7);
        x.hear(3, 1, 0);
        due("d behind the ring", x.has(3, 0, 3), 15);
    }

    @Says("3 PEOPLE of the CHAIN (bits)")
    static void promise7_aChainOfAllSeven() {
        SecondTelling x = of(SEVEN + "thing t 0 5;sees g t;", 1);
        for (int man = 5; man >= 0; man--) {
            x.hear(man, man + 1, 0);
        }
        due("a", x.has(0, 0, 3), 127);
    }

    // ---------------------------------------------------------------- 8

    @Says("NONE: no such PERSON")
    static void promise8_noSuchPerson() {
        SecondTelling x = of("man a 0;man b 9;");
        due("0", x.bent(0), 0);
        due("9", x.bent(1), 9);
        due("behind the last", x.bent(2), -1);
        due("an eighth", of(SEVEN).bent(7), -1);
        for (int none : NO_NUMBERS) {
            due("man " + none, x.bent(none), -1);
        }
    }

    @Says("NONE: no such PERSON")
    static void promise8_nobodyWithoutLines() {
        due("of a new one", new SecondTelling().bent(0), -1);
        SecondTelling x = of("man a 5;");
        x.text(0);
        due("behind an empty text", x.bent(0), -1);
    }

    // ---------------------------------------------------------------- 9

    private static void value(String e, long want) {
        SecondTelling x = of("man a 3;thing t 0 7;sees a t;law change " + e + ";", 2);
        due(e, x.law(0, 0, 0, 0), want);
    }

    @Says("ERROR: / by 0")
    static void promise9_dividedBy0() {
        value("1/0", ERROR);
        value("0/0", ERROR);
        value("1/(hats-7)", ERROR);
        value("hats/apart", ERROR);
        value("(1/0)*0", ERROR);
        value("0/1", 0);
    }

    @Says("a value above 10 to the 12")
    static void promise9_above10ToThe12() {
        value("1000*1000*1000*1000", 1000000000000L);
        value("1000*1000*1000*1000+0", 1000000000000L);
        value("1000*1000*1000*1000+1", ERROR);
        value("1000*1000*1000*1000-(0-1)", ERROR);
        value("9999*9999*9999", 999700029999L);
        value("9999*9999*9999+9999*9999*3+9999*3", 999999999999L);
        value("9999*9999*9999*2", ERROR);
        value("(1000*1000+1)*(1000*1000)", ERROR);
    }

    @Says("or below 0 by more than that")
    static void promise9_below0ByMoreThanThat() {
        value("0-1000*1000*1000*1000", -1000000000000L);
        value("0-1000*1000*1000*1000-1", ERROR);
        value("(0-1000*1000)*(1000*1000)", -1000000000000L);
        value("(0-1000*1000)*(1000*1000+1)", ERROR);
        value("1000*1000*(0-1000*1000-1)", ERROR);
    }

    @Says("ERROR: / by 0, a value above 10 to the 12")
    static void promise9_aValueOnTheWayIsAnErrorToo() {
        value("1000*1000*1000*1000+1-1", ERROR);
        value("(1000*1000*1000*1000+1)*0", ERROR);
        value("(1000*1000*1000*1000+1)>0", ERROR);
        value("not (1000*1000*1000*1000*2)", ERROR);
    }

    @Says("VALUES are longs")
    static void promise9_productsBeyondALongDontComeRoundAgain() {
        String most = "(1000*1000*1000*1000)";
        value(most + "*" + most, ERROR);
        value("(0-" + most + ")*" + most, ERROR);
        value("(0-" + most + ")*(0-" + most + ")", ERROR);
        // 2 to the 32 times 2 to the 32 is 0 in 64 bits
        value("(4096*4096*256)*(4096*4096*256)", ERROR);
        for (int bits = 25; bits <= 39; bits++) {
            value("(" + powerOf2(bits) + ")*(" + powerOf2(64 - bits) + ")", ERROR);
            value("(0-" + powerOf2(bits) + ")*(" + powerOf2(64 - bits) + ")", ERROR);
        }
        value(most + "*0", 0);
        value("0*" + most, 0);
        value(most + "/(0-1)", -1000000000000L);
    }

    private static String powerOf2(int bits) {
        return many("4096*", bits / 12) + (1 << bits % 12);
    }

    @Says("a 65th KNOT of all E")
    static void promise9_anEOf64Knots() {
        value(many("not ", 63) + "1", 0);
        value(many("not ", 62) + "1", 1);
        value("((((((((" + many("not ", 63) + "5))))))))", 0);
        value(many("not ", 7) + many("(not ", 8) + many("not ", 48) + "0" + many(")", 8), 1);
        value("1" + many("+1", 31), 32);
        value("64" + many("-1", 31), 33);
        value("1+1*(1+1*(1+1*(1+1*(1+1*(1+1*(1+1*(1+1*(1+1))))))))", 10);
    }

    @Says("VALUES are longs")
    static void promise9_valuesBeyondAnInt() {
        value("9999*9999*100", 9998000100L);
        value("9999*9999*100>9999", 1);
        value("9999*9999*100/9999", 999900);
        value("4096*4096*256 and 1", 1);
        value("not 4096*4096*256", 0);
    }

    @Says("/ is cut towards 0")
    static void promise9_cutTowards0() {
        value("7/2", 3);
        value("(0-7)/2", -3);
        value("7/(0-2)", -3);
        value("(0-7)/(0-2)", 3);
        value("(0-1)/2", 0);
        value("1/2", 0);
    }

    @Says("comparisons, and, or, not are 1 or 0")
    static void promise9_comparisonsOfEqualAndNextOnes() {
        value("2<2", 0);
        value("1<2", 1);
        value("2<=2", 1);
        value("3<=2", 0);
        value("2=2", 1);
        value("2=3", 0);
        value("2<>2", 0);
        value("2<>3", 1);
        value("2>=2", 1);
        value("2>=3", 0);
        value("2>2", 0);
        value("3>2", 1);
    }

    @Says("what isn't 0 is as 1, both sides are worked out")
    static void promise9_whatIsnt0IsAs1() {
        value("5 and 7", 1);
        value("5 and 0", 0);
        value("0 and 5", 0);
        value("0 or 9", 1);
        value("9 or 0", 1);
        value("0 or 0", 0);
        value("not 5", 0);
        value("not 0", 1);
        value("0-5 and 1", 1);
        value("not (0-1)", 0);
    }

    @Says("both sides are worked out")
    static void promise9_anErrorOnTheSecondSideCounts() {
        value("0 and 1/0", ERROR);
        value("1 or 1/0", ERROR);
        value("1/0 and 0", ERROR);
        value("1/0 or 1", ERROR);
    }

    private static final String LAWS = "law change hats*100+old;law fits apart*100+told*10+bent;law print hats*100+apart;";

    @Says("Long.MIN_VALUE: an ERROR, no such law")
    static void promise9_noSuchLaw() {
        SecondTelling x = of(THREE, 1);
        for (int what = 0; what <= 2; what++) {
            due("no law " + what, x.law(what, 0, 0, 1), ERROR);
        }
        SecondTelling y = of(THREE + "law fits 1;", 1);
        due("no change", y.law(0, 0, 0, 1), ERROR);
        due("fits", y.law(1, 0, 0, 1), 1);
        due("no print", y.law(2, 0, 0, 1), ERROR);
    }

    @Says("no such ones, one hasn't it")
    static void promise9_noSuchOnes() {
        SecondTelling x = of(THREE + LAWS, 1);
        due("what 3", x.law(3, 0, 0, 1), ERROR);
        due("thing 1", x.law(0, 1, 0, 1), ERROR);
        due("man 3", x.law(0, 0, 3, 1), ERROR);
        due("other 3", x.law(1, 0, 0, 3), ERROR);
        due("other 3 of print", x.law(2, 0, 0, 3), ERROR);
        for (int none : NO_NUMBERS) {
            due("what " + none, x.law(none, 0, 0, 1), ERROR);
            due("thing " + none, x.law(0, none, 0, 1), ERROR);
            due("one " + none, x.law(1, 0, none, 1), ERROR);
            due("other " + none, x.law(1, 0, 0, none), ERROR);
        }
    }

    @Says("no such ones, one hasn't it")
    static void promise9_oneHasntIt() {
        SecondTelling x = of(THREE + LAWS, 1);
        due("change", x.law(0, 0, 2, 0), ERROR);
        due("fits, the first one", x.law(1, 0, 2, 0), ERROR);
        due("fits, the second one", x.law(1, 0, 0, 2), ERROR);
        due("print, the first one", x.law(2, 0, 2, 0), ERROR);
        due("print, the second one", x.law(2, 0, 0, 2), ERROR);
    }

    @Says("of 1, 2 PEOPLE alike")
    static void promise9_peopleAlike() {
        SecondTelling x = of(THREE + LAWS, 1);
        due("fits", x.law(1, 0, 0, 0), ERROR);
        due("print", x.law(2, 0, 1, 1), ERROR);
        due("but of change", x.law(0, 0, 1, 1), 4001);
    }

    @Says("the second one isn't looked at")
    static void promise9_ofChangeTheSecondOneIsntLookedAt() {
        SecondTelling x = of(THREE + LAWS, 1);
        due("who hasn't it", x.law(0, 0, 0, 2), 4001);
        for (int none : NO_NUMBERS) {
            due("other " + none, x.law(0, 0, 0, none), 4001);
        }
    }

    @Says("The law's E now of a THING")
    static void promise9_itsEIsToldWhateverHatsMayBe() {
        value("hats*9999", 69993);
        value("0-5", -5);
        SecondTelling x = of(THREE + "law print 5000;law fits 0-7;", 1);
        due("print", x.law(2, 0, 0, 1), 5000);
        due("fits", x.law(1, 0, 0, 1), -7);
    }

    @Says("1 fits, whatever the CHAINS")
    static void promise9_fitsOfTwoWhoAreJoined() {
        SecondTelling x = of("man a 3;man b 0;thing t 0 5;sees a t;law fits apart*10+1;", 1);
        x.hear(1, 0, 0);
        due("joined", x.joined(0, 1, 0), 1);
        due("fits", x.law(1, 0, 0, 1), 31);
    }

    @Says("apart: APART (of change 0")
    static void promise9_namesAtTheirLeast() {
        SecondTelling x = of("man a 0;thing t 0 0;sees a t;law change hats+bent*10+old*100+apart*1000+told*2000+day*5000+many;", 1);
        due("on day 1", x.law(0, 0, 0, 0), 5101);
        SecondTelling y = of("man a 0;man b 0;thing t 0 0;sees a t;law change old;", 5);
        due("old by now", y.law(0, 0, 0, 0), 5);
        y.hear(1, 0, 0);
        due("old of today", y.law(0, 0, 1, 0), 0);
    }

    // ---------------------------------------------------------------- 10

    private static SecondTelling hearing(int bent, int hats) {
        return of("man a " + bent + ";man b 0;thing t 0 " + hats + ";sees a t;talk 0;", 1);
    }

    @Says("the teller's HATS and BENT in sum modulo 100 without, with an ERROR")
    static void promise10_hatsComeRoundAt100() {
        due("99", hearing(1, 98).hear(1, 0, 0), 99);
        due("100 is 0", hearing(1, 99).hear(1, 0, 0), 0);
        due("108 is 8", hearing(9, 99).hear(1, 0, 0), 8);
        due("0 and 0", hearing(0, 0).hear(1, 0, 0), 0);
    }

    private static int hearBy(String law) {
        SecondTelling x = of("man a 9;man b 5;thing t 0 95;sees a t;law change " + law + ";", 3);
        int heard = x.hear(1, 0, 0);
        due("has it so", x.has(1, 0, 0), heard);
        return heard;
    }

    @Says("as E of change HATS (0 .. 99")
    static void promise10_changeBelow0IsNoHats() {
        due("-1", hearBy("0-1"), 0);
        due("0", hearBy("0"), 0);
        due("far below", hearBy("0-1000*1000*1000*1000"), 0);
        due("beyond an int", hearBy("0-4096*4096*256+7"), 0);
    }

    @Says("as E of change HATS (0 .. 99")
    static void promise10_changeAbove99Is99() {
        due("99", hearBy("99"), 99);
        due("100", hearBy("100"), 99);
        due("far above", hearBy("1000*1000*1000*1000"), 99);
        due("beyond an int", hearBy("4096*4096*256+7"), 99);
    }

    @Says("apart: APART (of change 0")
    static void promise10_apartOfChangeIs0() {
        due("0", hearBy("apart+5"), 5);
        due("told, too", hearBy("told+5"), 5);
        due("one has it ahead of it", hearBy("many+5"), 6);
    }

    @Says("the teller's HATS and BENT in sum modulo 100 without, with an ERROR")
    static void promise10_changeWithAnError() {
        due("/ by 0", hearBy("1/0"), 4);
        due("too large", hearBy("1000*1000*1000*1000+1"), 4);
        due("too small", hearBy("0-1000*1000*1000*1000-1"), 4);
    }

    @Says("whatever the WAYS, DAYS, talk")
    static void promise10_whateverTheWaysDaysTalk() {
        SecondTelling x = of("man a 1;man b 2;man c 3;thing t 0 9;sees a t;way a b 9;talk 0;", 1);
        due("ahead of the way's days", x.hear(1, 0, 0), 10);
        due("without a way, on the same day", x.hear(2, 1, 0), 12);
        due("since now", x.has(2, 0, 1), 1);
    }

    @Says("-2: he has it already, the other one hasn't it")
    static void promise10_heHasItAlready() {
        SecondTelling x = of(THREE, 1);
        String before = stateOf(x);
        due("both have it", x.hear(0, 1, 0), -2);
        due("nothing changed", stateOf(x), before);
    }

    @Says("-2: he has it already, the other one hasn't it")
    static void promise10_theOtherOneHasntIt() {
        SecondTelling x = of(THREE, 1);
        String before = stateOf(x);
        due("he has it, the other one hasn't", x.hear(0, 2, 0), -2);
        x.forget(0, 0);
        x.undo();
        due("nothing changed", stateOf(x), before);
        x.forget(0, 0);
        due("neither has it", x.hear(0, 2, 0), -2);
        due("one thing is to undo", x.count(13), 1);
    }

    @Says("NONE: no such ones, alike")
    static void promise10_noSuchOnes() {
        SecondTelling x = of(THREE, 1);
        String before = stateOf(x);
        due("man 3", x.hear(3, 0, 0), -1);
        due("from 3", x.hear(2, 3, 0), -1);
        due("thing 1", x.hear(2, 0, 1), -1);
        for (int none : NO_NUMBERS) {
            due("man " + none, x.hear(none, 0, 0), -1);
            due("from " + none, x.hear(2, none, 0), -1);
            due("thing " + none, x.hear(2, 0, none), -1);
        }
        due("nothing changed", stateOf(x), before);
    }

    @Says("NONE: no such ones, alike")
    static void promise10_alike() {
        SecondTelling x = of(THREE, 1);
        due("who has it", x.hear(0, 0, 0), -1);
        due("who hasn't it", x.hear(2, 2, 0), -1);
    }

    // ---------------------------------------------------------------- 11

    /** b by sight as 40, c through a as 40 and so much more: 1, if the second telling makes it news. */
    private static int newsApartBy(int apart, String lines) {
        SecondTelling x = of(THREE + "law change hats+" + apart + ";" + lines, 1);
        x.hear(2, 0, 0);
        due("the first telling", x.tell(1, 0), 0);
        int news = x.tell(2, 0);
        SecondTelling y = of(THREE + "law change hats+" + apart + ";" + lines, 1);
        y.hear(2, 0, 0);
        due("the first telling", y.tell(2, 0), 0);
        due("the other way round", y.tell(1, 0), news);
        return news;
    }

    @Says("near: 0 .. 99 (1 without)")
    static void promise11_nearIs1Without() {
        due("0", newsApartBy(0, ""), 0);
        due("1", newsApartBy(1, ""), 1);
    }

    @Says("far: 0 .. 99 (9)")
    static void promise11_farIs9Without() {
        due("9", newsApartBy(9, ""), 1);
        due("10", newsApartBy(10, ""), 0);
    }

    @Says("APART, that is how far their HATS are from one another, is from near to far")
    static void promise11_apartFromNearToFar() {
        due("below near", newsApartBy(2, "near 3;far 5;"), 0);
        due("near", newsApartBy(3, "near 3;far 5;"), 1);
        due("far", newsApartBy(5, "near 3;far 5;"), 1);
        due("above far", newsApartBy(6, "near 3;far 5;"), 0);
        due("near is far", newsApartBy(4, "near 4;far 4;"), 1);
        due("0 from 0", newsApartBy(0, "near 0;far 0;"), 1);
        due("1 from 0", newsApartBy(1, "near 0;far 0;"), 0);
    }

    @Says("APART, that is how far their HATS are from one another, is from near to far")
    static void promise11_nothingFitsIfNearIsBeyondFar() {
        due("far", newsApartBy(4, "near 5;far 4;"), 0);
        due("near", newsApartBy(5, "near 5;far 4;"), 0);
    }

    @Says("APART, that is how far their HATS are from one another, is from near to far")
    static void promise11_apartBy99() {
        SecondTelling x = of("man a 0;man b 0;man c 0;thing t 0 0;sees a t;sees b t;law change 99;near 99;far 99;", 1);
        x.hear(2, 0, 0);
        x.tell(2, 0);
        due("the most there is", x.tell(1, 0), 1);
    }

    @Says("E of fits isn't 0 (without, with an ERROR")
    static void promise11_fitsIs0OrNot() {
        due("0, though near enough", newsApartBy(3, "law fits 0;"), 0);
        due("1, though too far", newsApartBy(30, "law fits 1;"), 1);
        due("-1 isn't 0", newsApartBy(3, "law fits 0-1;"), 1);
        due("2 to the 32 isn't 0", newsApartBy(3, "law fits 4096*4096*256;"), 1);
    }

    @Says("without, with an ERROR: APART")
    static void promise11_fitsWithAnError() {
        due("below near", newsApartBy(0, "law fits 1/0;"), 0);
        due("near", newsApartBy(1, "law fits 1/0;"), 1);
        due("far", newsApartBy(9, "law fits 1000*1000*1000*1000+1;"), 1);
        due("above far", newsApartBy(10, "law fits 1000*1000*1000*1000+1;"), 0);
    }

    @Says("if their CHAINS have nobody in common")
    static void promise11_oneInCommonIsTooMany() {
        SecondTelling x = of("man a 1;man b 1;man c 1;thing t 0 9;sees a t;near 0;far 99;", 1);
        x.hear(1, 0, 0);
        x.hear(2, 0, 0);
        due("b", x.tell(1, 0), 0);
        due("c has it from a, too", x.tell(2, 0), 0);
        due("a himself", x.tell(0, 0), 0);
        due("all printed", x.count(8), 3);
    }

    @Says("a PRINTED one by its HATS and CHAIN then, another one by those of now")
    static void promise11_hatsAndChainOfThen() {
        SecondTelling x = of("man a 1;man b 0;man c 0;thing t 0 5;sees a t;sees c t;near 0;", 1);
        x.hear(1, 0, 0);
        x.tell(1, 0);
        x.forget(1, 0);
        x.hear(1, 2, 0);
        due("b's chain is by c now", x.has(1, 0, 3), 6);
        due("but a's of then", x.tell(0, 0), 0);
        due("not c's", x.tell(2, 0), 1);
    }

    @Says("one who HAS it no more (they are in it, too)")
    static void promise11_aChainCutByForgettingFits() {
        SecondTelling x = of("man a 1;man b 1;man c 1;thing t 0 5;sees a t;near 0;", 1);
        x.hear(1, 0, 0);
        x.hear(2, 1, 0);
        due("a", x.tell(0, 0), 0);
        x.forget(1, 0);
        due("c's chain ends with b", x.tell(2, 0), 1);
    }

    @Says("if it FITS one that was PRINTED ahead of it")
    static void promise11_theFirstTellingIsNoNews() {
        SecondTelling x = of(THREE + "law fits 1;", 1);
        due("the first", x.tell(0, 0), 0);
        due("it is printed", x.thing(0, 4), 1);
        due("no news", x.thing(0, 2), -2);
        due("no space", x.count(9), 0);
    }

    @Says("what is NEWS stays so; more TELLINGS are PRINTED all the same")
    static void promise11_newsOnce() {
        SecondTelling x = of(ALL_SEE + "near 0;law print 5;", 1);
        x.tell(0, 0);
        due("news", x.tell(1, 0), 1);
        x.go(1);
        for (int man = 2; man < 7; man++) {
            due("more", x.tell(man, 0), 0);
        }
        due("all are printed", x.count(8), 7);
        due("space once", x.count(9), 5);
        due("its day stays", x.thing(0, 2), 1);
    }

    @Says("and the THING isn't NEWS")
    static void promise11_newsOfDay0IsNotNewsAgain() {
        SecondTelling x = of(THREE + "sees c t;near 0;law print 5;tell a t 0;tell b t 0;", 1);
        due("news", x.thing(0, 2), 0);
        due("c's telling", x.tell(2, 0), 0);
        due("its day stays", x.thing(0, 2), 0);
        due("space once", x.count(9), 5);
    }

    private static int spaceBy(String law) {
        SecondTelling x = of(THREE + "near 0;" + law, 1);
        x.tell(0, 0);
        due("news", x.tell(1, 0), 1);
        return x.count(9);
    }

    @Says("SPACE is more by E of print (0 .. 999; 1 without, with an ERROR)")
    static void promise11_printBelow0Is0() {
        due("-1", spaceBy("law print 0-1;"), 0);
        due("0", spaceBy("law print 0;"), 0);
        due("beyond an int", spaceBy("law print 0-4096*4096*256+7;"), 0);
    }

    @Says("SPACE is more by E of print (0 .. 999; 1 without, with an ERROR)")
    static void promise11_printAbove999Is999() {
        due("999", spaceBy("law print 999;"), 999);
        due("1000", spaceBy("law print 1000;"), 999);
        due("beyond an int", spaceBy("law print 4096*4096*256+7;"), 999);
    }

    @Says("SPACE is more by E of print (0 .. 999; 1 without, with an ERROR)")
    static void promise11_printWithoutOrWithAnErrorIs1() {
        due("without", spaceBy(""), 1);
        due("/ by 0", spaceBy("law print 1/0;"), 1);
        due("too large", spaceBy("law print 1000*1000*1000*1000+1;"), 1);
    }

    /** Each THING is NEWS once, so that 99999 is out of reach: this is the most there can be. */
    @Says("99999 at most")
    static void promise11_theMostSpaceThereCanBe() {
        SecondTelling x = of("man a 0;man b 0;man c 0;near 0;law print 999;" + SIX.replace(" 1 1;", " 0 1;")
                + "sees a a;sees a b;sees a c;sees a d;sees a e;sees a f;", 1);
        for (int thing = 0; thing < 6; thing++) {
            x.hear(1, 0, thing);
            x.hear(2, 1, thing);
            x.forget(1, thing);
            due("a", x.tell(0, thing), 0);
            due("c", x.tell(2, thing), 1);
            due("space", x.count(9), 999 * (thing + 1));
        }
        due("all are news", x.count(6), 6);
    }

    @Says("told: how many TELLINGS of it are PRINTED (ahead of this one)")
    static void promise11_toldIsAheadOfThisOne() {
        SecondTelling x = of(THREE + "law fits told=1;law print told*10+many;", 1);
        due("the first", x.tell(0, 0), 0);
        due("the second", x.tell(1, 0), 1);
        due("one ahead of it, two have it", x.count(9), 12);
    }

    /** b's telling, as 43, is printed ahead of a's, as 40; c's comes then. */
    private static int spaceByTheFirst(String fits) {
        SecondTelling x = of("man a 0;man b 0;man c 0;thing t 0 40;sees a t;sees c t;law change hats+3;law print 10+apart;" + fits, 1);
        due("b from a", x.hear(1, 0, 0), 43);
        due("b", x.tell(1, 0), 0);
        due("a, joined with b", x.tell(0, 0), 0);
        due("c", x.tell(2, 0), 1);
        return x.count(9);
    }

    @Says("of print of the two, the first PRINTED one by PEOPLE that FITS")
    static void promise11_apartOfTheFirstByPeopleThatFits() {
        due("both fit: a's", spaceByTheFirst("law fits 1;"), 10);
        due("b's fits alone", spaceByTheFirst("law fits apart>=3;"), 13);
    }

    @Says("-2: he hasn't it, it is PRINTED already (not counted as IDLE)")
    static void promise11_heHasntIt() {
        SecondTelling x = of(THREE, 1);
        String before = stateOf(x);
        due("c", x.tell(2, 0), -2);
        due("nothing changed", stateOf(x), before);
    }

    @Says("-2: he hasn't it, it is PRINTED already (not counted as IDLE)")
    static void promise11_itIsPrintedAlready() {
        SecondTelling x = of(THREE, 1);
        x.tell(0, 0);
        String before = stateOf(x);
        due("again", x.tell(0, 0), -2);
        due("nothing changed", stateOf(x), before);
        x.forget(0, 0);
        x.hear(0, 1, 0);
        due("though heard anew", x.tell(0, 0), -2);
        due("no idle", x.count(10), 0);
    }

    @Says("NONE: no such ones")
    static void promise11_noSuchOnes() {
        SecondTelling x = of(THREE, 1);
        String before = stateOf(x);
        due("man 3", x.tell(3, 0), -1);
        due("thing 1", x.tell(0, 1), -1);
        for (int none : NO_NUMBERS) {
            due("man " + none, x.tell(none, 0), -1);
            due("thing " + none, x.tell(0, none), -1);
        }
        due("nothing changed", stateOf(x), before);
    }

    // ---------------------------------------------------------------- 12

    @Says("false: no such ones, he hasn't it")
    static void promise12_heHasntIt() {
        SecondTelling x = of(THREE, 1);
        due("c", x.forget(2, 0), false);
        due("a", x.forget(0, 0), true);
        due("a again", x.forget(0, 0), false);
        due("one is to undo", x.count(13), 1);
    }

    @Says("false: no such ones, he hasn't it")
    static void promise12_noSuchOnes() {
        SecondTelling x = of(THREE, 1);
        String before = stateOf(x);
        due("man 3", x.forget(3, 0), false);
        due("thing 1", x.forget(0, 1), false);
        for (int none : NO_NUMBERS) {
            due("man " + none, x.forget(none, 0), false);
            due("thing " + none, x.forget(0, none), false);
        }
        due("nothing changed", stateOf(x), before);
    }

    @Says("what is PRINTED stays, who has it FROM him has it so on")
    static void promise12_whatIsPrintedStays() {
        SecondTelling x = of("man a 1;man b 0;thing t 0 9;thing u 0 9;sees a t;sees a u;", 1);
        x.hear(1, 0, 0);
        x.tell(0, 0);
        x.forget(0, 0);
        due("printed", x.thing(0, 4), 1);
        due("b has it", x.has(1, 0, 0), 10);
        due("from a", x.has(1, 0, 2), 0);
        due("a has the other thing", x.has(0, 1, 0), 9);
    }

    // ---------------------------------------------------------------- 13: how many

    @Says("So many DAYS (0 .. 200) go by")
    static void promise13_noneAnd200() {
        SecondTelling x = of(TOWN);
        due("0", x.go(0), 0);
        due("nobody saw anything", x.count(7), 0);
        due("200", x.go(200), 200);
    }

    @Says("NONE, and none does: no such number")
    static void promise13_noSuchNumber() {
        SecondTelling x = of(TOWN, 1);
        x.tell(0, 0);
        String before = stateOf(x);
        for (int n : new int[] {201, -1, Integer.MAX_VALUE, Integer.MAX_VALUE - 1, Integer.MIN_VALUE}) {
            due("go " + n, x.go(n), -1);
        }
        due("nothing changed", stateOf(x), before);
    }

    private static SecondTelling onDay9800Less(int less) {
        SecondTelling x = of("man a 1;");
        for (int i = 1; i < 49; i++) {
            due("on", x.go(200), 200 * i);
        }
        due("on", x.go(200 - less), 9800 - less);
        return x;
    }

    @Says("behind 9800")
    static void promise13_9800Itself() {
        SecondTelling x = onDay9800Less(200);
        due("9800", x.go(200), 9800);
        due("0 on it", x.go(0), 9800);
    }

    @Says("NONE, and none does: no such number, behind 9800")
    static void promise13_behind9800() {
        SecondTelling x = onDay9800Less(1);
        due("9801", x.go(2), -1);
        due("none does", x.count(5), 9799);
        due("far behind", x.go(200), -1);
        due("9800", x.go(1), 9800);
        due("9801 by one", x.go(1), -1);
        due("still 9800", x.count(5), 9800);
    }

    // ---------------------------------------------------------------- 13: a DAY

    @Says("THINGS of this DAY (on this DAY alone)")
    static void promise13_seenOnItsDayAlone() {
        SecondTelling x = of("man a 1;man b 1;thing t 2 9;sees a t;", 2);
        due("not yet", x.has(0, 0, 0), -2);
        x.go(1);
        due("since its day", x.has(0, 0, 1), 2);
        due("who doesn't see it", x.has(1, 0, 0), -2);
        x.forget(0, 0);
        x.go(9);
        due("not on another day", x.has(0, 0, 0), -2);
    }

    @Says("a DAY 0 .. 99")
    static void promise13_thingsOfTheFirstAndTheLastDay() {
        SecondTelling x = of("man a 1;thing t 0 9;thing u 99 8;sees a t;sees a u;", 1);
        due("of day 0", x.has(0, 0, 1), 0);
        x.go(98);
        due("day 99 isn't over", x.has(0, 1, 0), -2);
        x.go(1);
        due("of day 99", x.has(0, 1, 1), 99);
    }

    private static int heardOn(int days) {
        SecondTelling x = of("man a 1;man b 1;thing t 3 9;sees a t;way a b " + days + ";", 3 + days);
        due("not ahead of it", x.has(1, 0, 1), -2);
        x.go(1);
        return x.has(1, 0, 1);
    }

    @Says("if who tells HAS it SINCE so many DAYS at least (the DAY less SINCE)")
    static void promise13_behindSoManyDaysAtLeast() {
        for (int days = 1; days <= 9; days++) {
            due("a way of " + days, heardOn(days), 3 + days);
        }
    }

    @Says("by numbers each WAY")
    static void promise13_theFirstWayIsTheOne() {
        SecondTelling x = of("man a 1;man b 2;man c 3;man d 0;thing t 0 9;sees a t;sees b t;way b c 1;way a c 1;way c d 1;", 2);
        due("from b", x.has(2, 0, 2), 1);
        due("what is heard today isn't told today", x.has(3, 0, 0), -2);
    }

    @Says("WAYS, at most 12")
    static void promise13_allTwelveWaysAndTells() {
        SecondTelling x = of(SEVEN + "thing t 0 9;sees a t;way b c 9;way b d 9;way b e 9;way b f 9;way b g 9;way a b 1;way c d 9;way c e 9;way c f 9;"
                + "way c g 9;way a c 1;way a d 1;" + many("tell b t 0;", 11) + "tell a t 1;", 2);
        due("a, b, c, d", x.thing(0, 3), 15);
        due("eleven are idle", x.count(10), 11);
        due("the twelfth is printed", x.count(8), 1);
    }

    @Says("TELLS (tell), at most 12: a PERSON a THING on a DAY 0 .. 99")
    static void promise13_tellsOfTheFirstAndTheLastDay() {
        SecondTelling x = of("man a 1;man b 1;thing t 0 9;sees a t;sees b t;tell a t 0;tell b t 99;", 1);
        due("on day 0", x.thing(0, 4), 1);
        x.go(98);
        due("day 99 isn't over", x.thing(0, 4), 1);
        x.go(1);
        due("on day 99", x.thing(0, 4), 3);
    }

    @Says("A TELL of one who hasn't the THING, or of whom a TELLING of it is PRINTED already, is IDLE.")
    static void promise13_aTellOfNothingIsIdle() {
        SecondTelling x = of("man a 1;thing t 1 9;sees a t;tell a t 0;tell a t 1;", 1);
        due("hasn't it", x.count(10), 1);
        due("nothing printed", x.count(8), 0);
        x.go(1);
        due("has it", x.count(10), 1);
        due("printed", x.count(8), 1);
    }

    @Says("A TELL of one who hasn't the THING, or of whom a TELLING of it is PRINTED already, is IDLE.")
    static void promise13_aTellOfWhatIsPrintedIsIdle() {
        SecondTelling x = of("man a 1;thing t 0 9;sees a t;tell a t 1;tell a t 1;tell a t 2;", 1);
        x.go(1);
        due("the second one of a day", x.count(10), 1);
        x.go(1);
        due("the one behind it", x.count(10), 2);
        SecondTelling y = of("man a 1;thing t 0 9;sees a t;tell a t 1;", 1);
        y.tell(0, 0);
        y.go(1);
        due("told by call", y.count(10), 1);
    }

    // ---------------------------------------------------------------- 13: numbers

    /** The DAY on which b hears it by the only WAY, the first chance being on DAY 1; NOT within 99 DAYS. */
    private static int heardBy(int talk, int seed) {
        return of("man a 1;man b 1;thing t 0 9;sees a t;way a b 1;talk " + talk + ";seed " + seed + ";", 99).has(1, 0, 1);
    }

    @Says("if a number modulo 100 (no number, if talk is 0 or 100) is below talk")
    static void promise13_aNumberThatIsTalkIsntBelowIt() {
        int tried = 0;
        for (int seed = 0; seed < 2000 && tried < 5; seed++) {
            int first = numberOfHundred(seed, 1);
            if (first > 0 && first < 99) {
                tried++;
                due("talk " + first, heardBy(first, seed) == 1, false);
                due("talk one more", heardBy(first + 1, seed), 1);
            }
        }
        due("tried", tried, 5);
    }

    @Says("no number, if talk is 0 or 100")
    static void promise13_talk0AndTalk100() {
        for (int seed = 0; seed < 99999; seed += 9999) {
            due("0", heardBy(0, seed), -2);
            due("100", heardBy(100, seed), 1);
        }
    }

    @Says("talk: of a hundred 0 .. 100 (100)")
    static void promise13_theyAlwaysTalkWithoutTalk() {
        due("without", of("man a 1;man b 1;thing t 0 9;sees a t;way a b 1;seed 3;", 2).has(1, 0, 1), 1);
    }

    @Says("talk: of a hundred 0 .. 100 (100)")
    static void promise13_talk1AndTalk99() {
        for (int seed = 0; seed < 99999; seed += 1111) {
            int day = 1;
            while (day < 99 && numberOfHundred(seed, day) > 0) {
                day++;
            }
            due("talk 1, seed " + seed, heardBy(1, seed), day < 99 ? day : -2);
            due("talk 99, seed " + seed, heardBy(99, seed), numberOfHundred(seed, 1) < 99 ? 1 : 2);
        }
    }

    @Says("without what is above 31 bits")
    static void promise13_numbersComeRoundAt31Bits() {
        for (int seed = 99900; seed <= 99999; seed += 9) {
            int day = 1;
            while (day < 99 && numberOfHundred(seed, day) >= 10) {
                day++;
            }
            due("seed " + seed, heardBy(10, seed), day < 99 ? day : -2);
        }
    }

    @Says("seed: 0 .. 99999 (0)")
    static void promise13_theSeedIs0Without() {
        int day = 1;
        while (numberOfHundred(0, day) >= 15) {
            day++;
        }
        due("told", heardBy(15, 0), day);
        due("without", of("man a 1;man b 1;thing t 0 9;sees a t;way a b 1;talk 15;", 99).has(1, 0, 1), day);
    }

    /** A seed whose first number is below a half of a hundred, the second one not. */
    private static int seedOfLowThenHigh() {
        int seed = 0;
        while (numberOfHundred(seed, 1) >= 50 || numberOfHundred(seed, 2) < 50) {
            seed++;
        }
        return seed;
    }

    @Says("(else no number is drawn)")
    static void promise13_noNumberForOneWhoHasntIt() {
        SecondTelling x = of("man a 1;man b 1;man c 1;thing t 0 9;sees a t;way b c 1;way a c 1;talk 50;seed " + seedOfLowThenHigh() + ";", 2);
        due("the first number is a's", x.has(2, 0, 0), 10);
    }

    @Says("(else no number is drawn)")
    static void promise13_noNumberAheadOfTheDays() {
        SecondTelling x = of("man a 1;man b 1;man c 1;thing t 0 9;sees a t;way a b 2;way a c 1;talk 50;seed " + seedOfLowThenHigh() + ";", 2);
        due("the first number is the second way's", x.has(2, 0, 0), 10);
    }

    @Says("(else no number is drawn)")
    static void promise13_noNumberForOneWhoHasIt() {
        SecondTelling x = of("man a 1;man b 1;man c 1;thing t 0 9;sees a t;sees b t;way a b 1;way a c 1;talk 50;seed "
                + seedOfLowThenHigh() + ";", 2);
        due("the first number is the second way's", x.has(2, 0, 0), 10);
    }

    @Says("(else no number is drawn)")
    static void promise13_aNumberForEachThing() {
        SecondTelling x = of("man a 1;man b 1;thing t 0 9;thing u 0 9;sees a t;sees a u;way a b 1;talk 50;seed " + seedOfLowThenHigh() + ";", 2);
        due("the first is low", x.has(1, 0, 0), 10);
        due("the second is high", x.has(1, 1, 0), -2);
    }
}
