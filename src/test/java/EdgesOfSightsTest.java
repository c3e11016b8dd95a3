/** Promises 27 to 37, sentence by sentence: what was seen, struck, known, asked, drawn, tried, undone, kept, at their edges. */
public final class EdgesOfSightsTest extends Check {
    /** b hears it from a on day 1 as 10 and a's bent, c from b on day 2. */
    private static final String ROW = "man a 4;man b 2;man c 0;thing t 0 10;sees a t;way a b 1;way b c 1;";
    private static final int ALL = 1023;

    public static void main(String[] args) throws Exception {
        runAll(EdgesOfSightsTest.class, 27, 37);
    }

    private static SecondTelling withSeen(int many) {
        SecondTelling x = of(ROW);
        for (int i = 0; i < many; i++) {
            due("seen " + i, x.see(2, 1, 0, 14, true), i);
        }
        return x;
    }

    // ---------------------------------------------------------------- 27

    @Says("SEEN, at most 24, numbered from 0 on")
    static void promise27_24AndNoMore() {
        SecondTelling x = withSeen(24);
        due("a 25th", x.see(2, 1, 0, 14, true), -1);
        due("24 are seen", x.count(11), 24);
        due("what is refused doesn't count", x.see(2, 1, 0, 15, true), -1);
        due("bents", x.bents(0), 1 << 4);
    }

    @Says("NONE: no such ones, or there are 24")
    static void promise27_whatStrikesIsOneOfThe24() {
        SecondTelling x = withSeen(23);
        due("the 24th", x.strike(0), 23);
        due("a 25th", x.see(2, 1, 0, 14, true), -1);
    }

    @Says("behind so many DAYS 1 .. 60")
    static void promise27_days1To60() {
        SecondTelling x = of(ROW);
        due("0", x.see(0, 0, 0, 10, true), -1);
        due("1", x.see(1, 0, 0, 10, true), 0);
        due("60", x.see(60, 0, 0, 10, true), 1);
        due("61", x.see(61, 0, 0, 10, true), -1);
        for (int none : new int[] {-1, Integer.MIN_VALUE, Integer.MAX_VALUE}) {
            due("days " + none, x.see(none, 0, 0, 10, true), -1);
        }
        due("two", x.count(11), 2);
    }

    @Says("as so many HATS 0 .. 99")
    static void promise27_hats0To99() {
        SecondTelling x = of(ROW);
        due("-1", x.see(1, 0, 0, -1, true), -1);
        due("0", x.see(1, 0, 0, 0, true), 0);
        due("99", x.see(1, 0, 0, 99, false), 1);
        due("100", x.see(1, 0, 0, 100, false), -1);
        due("far", x.see(1, 0, 0, Integer.MAX_VALUE, false), -1);
        due("far below", x.see(1, 0, 0, Integer.MIN_VALUE, false), -1);
    }

    @Says("NONE: no such ones, or there are 24")
    static void promise27_noSuchOnes() {
        SecondTelling x = of(ROW);
        due("man 3", x.see(1, 3, 0, 10, true), -1);
        due("thing 1", x.see(1, 0, 1, 10, true), -1);
        for (int none : NO_NUMBERS) {
            due("man " + none, x.see(1, none, 0, 10, true), -1);
            due("thing " + none, x.see(1, 0, none, 10, true), -1);
        }
        due("none are seen", x.count(11), 0);
    }

    // ---------------------------------------------------------------- 28

    @Says("NONE: no such one, or there are 24")
    static void promise28_noSuchOne() {
        SecondTelling x = of(ROW);
        due("of none", x.strike(0), -1);
        x.see(2, 1, 0, 14, true);
        due("behind the last", x.strike(1), -1);
        for (int none : NO_NUMBERS) {
            due("strike " + none, x.strike(none), -1);
        }
        due("one is seen", x.count(11), 1);
    }

    @Says("NONE: no such one, or there are 24")
    static void promise28_thereAre24() {
        SecondTelling x = withSeen(24);
        due("the first", x.strike(0), -1);
        due("the last", x.strike(23), -1);
        due("24 are seen", x.count(11), 24);
        due("nothing is struck", x.bents(0), 1 << 4);
    }

    @Says("One may strike one ahead of it (STRUCK)")
    static void promise28_the24thStrikesTheOneAheadOfIt() {
        SecondTelling x = of(ROW);
        for (int i = 0; i < 22; i++) {
            x.see(2, 1, 0, 14, true);
        }
        due("another one", x.see(2, 1, 0, 15, true), 22);
        due("none are left", x.bents(0), 0);
        due("it is struck", x.strike(22), 23);
        due("the others are known", x.bents(0), 1 << 4);
    }

    @Says("what strikes may be STRUCK: then it doesn't count; asked from the last one on")
    static void promise28_askedFromTheLastOneOn() {
        SecondTelling x = withSeen(1);
        for (int i = 0; i < 23; i++) {
            due("each strikes the one ahead of it", x.strike(i), i + 1);
            due("bents behind " + (i + 1), x.bents(0), i % 2 == 0 ? ALL : 1 << 4);
        }
    }

    @Says("the first n that aren't STRUCK by one of these")
    static void promise28_struckTwiceIsStruck() {
        SecondTelling x = withSeen(1);
        x.strike(0);
        x.strike(0);
        due("by both", x.bents(0), ALL);
        x.strike(1);
        due("by the second one", x.bents(0), ALL);
        x.strike(2);
        due("by none", x.bents(0), 1 << 4);
    }

    @Says("One that strikes one SEEN")
    static void promise28_whatStrikesIsNoSight() {
        SecondTelling x = of(ROW);
        x.see(2, 1, 0, 99, true);
        x.see(2, 1, 0, 99, true);
        due("the same text anew", load(x, ROW), 7);
        x.see(2, 1, 0, 14, true);
        due("where a sight was", x.strike(0), 1);
        due("all may be", x.bents(0), ALL);
    }

    // ---------------------------------------------------------------- 29

    @Says("false: no such n")
    static void promise29_noSuchN() {
        SecondTelling x = of(ROW);
        due("1 of none", x.known(1), false);
        x.see(2, 1, 0, 14, true);
        due("1", x.known(1), true);
        for (int n : new int[] {2, -2, Integer.MIN_VALUE, Integer.MAX_VALUE}) {
            due("known " + n, x.known(n), false);
            due("it stays", x.count(12), 1);
        }
    }

    @Says("KNOWN by n from now on")
    static void promise29_by0() {
        SecondTelling x = of(ROW);
        due("0 of none", x.known(0), true);
        x.see(2, 1, 0, 14, true);
        due("those to come aren't", x.count(12), 0);
        due("bents", x.bents(0), ALL);
    }

    @Says("KNOWN by n from now on")
    static void promise29_byAsManyAsThereAre() {
        SecondTelling x = withSeen(2);
        due("2 of 2", x.known(2), true);
        x.see(2, 1, 0, 15, true);
        due("not the third", x.bents(0), 1 << 4);
        due("by 2", x.count(12), 2);
        SecondTelling full = withSeen(24);
        due("24 of 24", full.known(24), true);
        due("25", full.known(25), false);
    }

    @Says("-1: by all, also those to come")
    static void promise29_byAll() {
        SecondTelling x = of(ROW);
        x.known(0);
        due("-1", x.known(-1), true);
        x.see(2, 1, 0, 14, true);
        due("by one", x.count(12), 1);
        due("bents", x.bents(0), 1 << 4);
        x.see(2, 1, 0, 15, true);
        due("by two", x.count(12), 2);
        due("none", x.bents(0), 0);
    }

    @Says("(all at first)")
    static void promise29_allAtFirst() {
        SecondTelling x = of(ROW);
        x.see(2, 1, 0, 14, true);
        due("by one", x.count(12), 1);
        due("bents", x.bents(0), 1 << 4);
    }

    @Says("the first n that aren't STRUCK by one of these")
    static void promise29_aStrikeBehindTheFirstNDoesntCount() {
        SecondTelling x = withSeen(1);
        x.strike(0);
        x.strike(1);
        x.known(2);
        due("struck by the second", x.bents(0), ALL);
        x.known(1);
        due("not struck by those behind", x.bents(0), 1 << 4);
        x.known(3);
        due("the strike is struck", x.bents(0), 1 << 4);
    }

    // ---------------------------------------------------------------- 30

    @Says("0 .. 9 (bits) in place of his own, by which all KNOWN ones are so")
    static void promise30_noneSeenLeavesAll() {
        due("all ten", of(ROW).bents(0), ALL);
    }

    @Says("0 .. 9 (bits) in place of his own, by which all KNOWN ones are so")
    static void promise30_noneIsLeft() {
        SecondTelling x = of(ROW);
        x.see(2, 1, 0, 9, true);
        due("less than bent 0", x.bents(0), 0);
        SecondTelling y = of(ROW);
        y.see(2, 1, 0, 20, true);
        due("more than bent 9", y.bents(0), 0);
    }

    @Says("0 .. 9 (bits) in place of his own, by which all KNOWN ones are so")
    static void promise30_theLeastAndTheMost() {
        SecondTelling x = of(ROW);
        x.see(2, 1, 0, 10, true);
        due("0", x.bents(0), 1);
        SecondTelling y = of(ROW);
        y.see(2, 1, 0, 19, true);
        due("9", y.bents(0), 1 << 9);
    }

    @Says("in sum modulo 100")
    static void promise30_hatsComeRoundAt100() {
        SecondTelling x = of("man a 0;man b 0;thing t 0 95;sees a t;way a b 1;");
        x.see(2, 1, 0, 99, true);
        due("99", x.bents(0), 1 << 4);
        SecondTelling y = of("man a 0;man b 0;thing t 0 95;sees a t;way a b 1;");
        y.see(2, 1, 0, 0, true);
        due("100 is 0", y.bents(0), 1 << 5);
    }

    @Says("or it wasn't so (he hadn't it, too)")
    static void promise30_heHadntIt() {
        SecondTelling x = of(ROW);
        x.see(1, 1, 0, 14, false);
        due("hadn't it: it wasn't so", x.bents(0), ALL);
        x.see(1, 1, 0, 14, true);
        due("hadn't it: it isn't so", x.bents(0), 0);
        SecondTelling y = of(ROW);
        y.see(1, 1, 0, 0, true);
        due("nor as 0", y.bents(0), 0);
    }

    @Says("behind so many DAYS 1 .. 60")
    static void promise30_behindOneDayAndBehind60() {
        SecondTelling x = of("man a 0;man b 0;thing t 50 10;sees a t;way a b 9;");
        x.see(59, 1, 0, 13, false);
        due("59 are too few", x.bents(0), ALL);
        x.see(60, 1, 0, 13, true);
        due("60 are enough", x.bents(0), 1 << 3);
        SecondTelling y = of(ROW);
        y.see(1, 0, 0, 10, true);
        due("seen on the first day", y.bents(0), ALL);
    }

    @Says("as it goes from the TEXT on, nothing done by call")
    static void promise30_whatIsDoneByCallDoesntCount() {
        SecondTelling x = of(ROW, 1);
        x.forget(0, 0);
        x.go(5);
        x.see(2, 1, 0, 14, true);
        due("as from the text on", x.bents(0), 1 << 4);
        SecondTelling y = of(ROW.replace("way a b 1;", ""), 1);
        y.hear(1, 0, 0);
        y.see(2, 1, 0, 14, true);
        due("nor what was heard by call", y.bents(0), 0);
    }

    @Says("by which all KNOWN ones are so")
    static void promise30_theLaterDayMayBeSeenFirst() {
        SecondTelling x = of(ROW);
        x.see(3, 2, 0, 10 + 7 + 2, true);
        x.see(2, 1, 0, 14, false);
        x.see(1, 0, 0, 10, true);
        due("c's hats count", x.bents(0), 1 << 7);
    }

    @Says("as it goes from the TEXT on, nothing done by call")
    static void promise30_asItGoesFromATalkOf50On() {
        SecondTelling x = of(ROW + "talk 49;");
        x.see(60, 1, 0, 14, true);
        due("49", x.bents(0), 0);
        SecondTelling y = of(ROW + "talk 50;");
        y.see(2, 1, 0, 14, true);
        due("50", y.bents(0), 1 << 4);
    }

    @Says("a PERSON HAD a THING as so many HATS 0 .. 99")
    static void promise30_ofTheLastPersonAndTheLastThing() {
        SecondTelling x = of(SEVEN + SIX.replace(" 1 1;", " 0 1;") + "sees a a;sees f f;way a b 1;way f g 1;");
        x.see(2, 6, 5, 1 + 8, true);
        due("of the sixth", x.bents(5), 1 << 8);
        due("of the first: it isn't so by another one's", x.bents(0), 0);
        SecondTelling y = of(SEVEN + SIX.replace(" 1 1;", " 0 1;") + "sees a a;sees f f;way a b 1;way f g 1;");
        y.see(2, 6, 5, 2, true);
        y.see(2, 1, 0, 5, true);
        due("both have to be so", y.bents(0), 1 << 4);
    }

    @Says("NONE: no such PERSON")
    static void promise30_noSuchPerson() {
        SecondTelling x = of(ROW);
        due("man 3", x.bents(3), -1);
        due("an eighth", of(SEVEN).bents(7), -1);
        for (int none : NO_NUMBERS) {
            due("man " + none, x.bents(none), -1);
        }
    }

    // ---------------------------------------------------------------- 31

    @Says("if there are none: PERSON 0, none left")
    static void promise31_ifThereAreNone() {
        SecondTelling x = of(ROW);
        x.see(2, 1, 0, 99, true);
        due("no bents", x.bents(0), 0);
        due("person 0", x.ask(0, 0, 0), 0);
        due("none left", x.ask(0, 0, 1), 0);
    }

    @Says("as how many HATS he HAS the THING behind 20 DAYS")
    static void promise31_behind20Days() {
        String text = "man a 1;man b 1;man c 1;sees a t;way a b 8;way b c 9;";
        SecondTelling x = of(text.replace("sees", "thing t 2 9;sees"));
        due("c hears it on day 19", x.ask(1, 0, 0), 2);
        due("one is left", x.ask(1, 0, 1), 1);
        SecondTelling y = of(text.replace("sees", "thing t 3 9;sees"));
        due("c hears it on day 20", y.ask(1, 0, 0), 0);
        due("ten are left", y.ask(1, 0, 1), 10);
    }

    @Says("the first of several")
    static void promise31_theFirstOfSeveral() {
        SecondTelling x = of(ROW);
        due("b and c tell all of a's", x.ask(0, 0, 0), 1);
        due("one is left", x.ask(0, 0, 1), 1);
        due("nobody tells of c's: the first one", x.ask(2, 0, 0), 0);
        due("ten are left", x.ask(2, 0, 1), 10);
    }

    @Says("each number is an answer, that he hasn't it is one, too")
    static void promise31_thatHeHasntItIsAnAnswer() {
        SecondTelling x = of(ROW.replace("sees a t;", ""));
        due("nobody has it: one answer for all ten", x.ask(0, 0, 1), 10);
        due("the first one", x.ask(0, 0, 0), 0);
        x.see(60, 0, 0, 10, true);
        due("none are left", x.ask(0, 0, 1), 0);
    }

    @Says("each number is an answer, that he hasn't it is one, too")
    static void promise31_theLargestOfTheAnswersIsTheWorst() {
        SecondTelling x = of("man a 0;man b 0;man c 0;thing t 0 0;sees a t;way a b 1;law change bent/4;");
        due("b", x.ask(0, 0, 0), 1);
        due("four of ten have the same", x.ask(0, 0, 1), 4);
        x.see(2, 1, 0, 2, true);
        due("two may be", x.bents(0), 1 << 8 | 1 << 9);
        due("both are left", x.ask(0, 0, 1), 2);
    }

    @Says("whom else (or him) one should ask")
    static void promise31_theFirstOneOrHimself() {
        SecondTelling x = of("man a 1;man b 1;thing t 0 9;sees b t;way b a 1;");
        due("the first one", x.ask(1, 0, 0), 0);
        due("one is left", x.ask(1, 0, 1), 1);
        // one is left whoever is asked, so it is the first one: he himself
        SecondTelling y = of("man b 1;man a 1;thing t 0 9;sees b t;way b a 1;law change hats+day*bent;");
        y.see(60, 1, 0, 9, true);
        due("bent 0 alone", y.bents(0), 1);
        due("it is left", y.ask(0, 0, 1), 1);
        due("he himself", y.ask(0, 0, 0), 0);
    }

    @Says("so that as few of BENTS of the PERSON (by KNOWN) as may be are left at worst")
    static void promise31_byKnown() {
        SecondTelling x = of("man a 0;man b 0;thing t 0 0;sees a t;way a b 1;law change bent/5;");
        x.see(2, 1, 0, 0, true);
        due("five may be", x.bents(0), 31);
        due("all five are left", x.ask(0, 0, 1), 5);
        due("whoever is asked: the first one", x.ask(0, 0, 0), 0);
        x.known(0);
        due("by none known b is asked", x.ask(0, 0, 0), 1);
    }

    @Says("ASK of a PERSON and a THING")
    static void promise31_ofTheSixthThingAskTheSeventhPerson() {
        SecondTelling x = of(SEVEN + SIX + "sees f f;way f g 1;");
        due("the seventh", x.ask(5, 5, 0), 6);
        due("one is left", x.ask(5, 5, 1), 1);
        due("nobody has the fifth", x.ask(5, 4, 1), 10);
    }

    @Says("ASK, what 0: whom, 1: how many are left at worst")
    static void promise31_noOtherWhat() {
        SecondTelling x = of(ROW);
        due("2", x.ask(0, 0, 2), -1);
        for (int none : NO_NUMBERS) {
            due("what " + none, x.ask(0, 0, none), -1);
        }
    }

    @Says("NONE: no such ones")
    static void promise31_noSuchOnes() {
        SecondTelling x = of(ROW);
        due("man 3", x.ask(3, 0, 0), -1);
        due("thing 1", x.ask(0, 1, 0), -1);
        for (int none : NO_NUMBERS) {
            due("man " + none, x.ask(none, 0, 0), -1);
            due("thing " + none, x.ask(0, none, 0), -1);
        }
    }

    // ---------------------------------------------------------------- 32

    private static SecondTelling drawing(int talk) {
        return of("man a 1;man b 2;thing t 0 9;sees a t;way a b 1;talk " + talk + ";", 1);
    }

    /** The only WAY asks for a number each DAY till b has it; the next time goes on with the next number. */
    private static int timesDrawn(int seed, int n, int talk) {
        int drawn = 0;
        int times = 0;
        for (int time = 0; time < 10; time++) {
            boolean has = false;
            for (int day = 0; day < n && !has; day++) {
                drawn++;
                has = numberOfHundred(seed, drawn) < talk;
            }
            times += has ? 1 : 0;
        }
        return times;
    }

    @Says("numbers from a seed 0 .. 2147483647 on, one behind another")
    static void promise32_seed0AndTheGreatestSeed() {
        for (int seed : new int[] {0, 1, 99999, 100000, 1 << 30, Integer.MAX_VALUE - 1, Integer.MAX_VALUE}) {
            due("seed " + seed, drawing(30).chance(seed, 2, 1, 0), timesDrawn(seed, 2, 30));
            due("seed " + seed + " for a day", drawing(30).chance(seed, 1, 1, 0), timesDrawn(seed, 1, 30));
        }
    }

    @Says("numbers from a seed 0 .. 2147483647 on")
    static void promise32_noSeedBelow0() {
        SecondTelling x = drawing(30);
        due("-1", x.chance(-1, 2, 1, 0), -1);
        due("far below", x.chance(Integer.MIN_VALUE, 2, 1, 0), -1);
    }

    @Says("n 1 .. 99 DAYS from now")
    static void promise32_for1And99Days() {
        due("1", drawing(50).chance(5, 1, 1, 0), timesDrawn(5, 1, 50));
        due("99", drawing(1).chance(5, 99, 1, 0), timesDrawn(5, 99, 1));
        SecondTelling x = drawing(50);
        for (int n : new int[] {0, 100, -1, Integer.MIN_VALUE, Integer.MAX_VALUE}) {
            due("n " + n, x.chance(5, n, 1, 0), -1);
        }
    }

    @Says("In how many of ten times drawn")
    static void promise32_neverAndAlways() {
        due("talk 0", drawing(0).chance(5, 99, 1, 0), 0);
        due("talk 100", drawing(100).chance(5, 1, 1, 0), 10);
        due("he has it", drawing(30).chance(5, 1, 0, 0), 10);
        SecondTelling x = of("man a 1;man b 2;thing t 98 9;sees a t;talk 30;");
        due("98 days are too few", x.chance(1, 98, 0, 0), 0);
        due("99 are enough", x.chance(1, 99, 0, 0), 10);
    }

    @Says("NONE: no such ones")
    static void promise32_noSuchOnes() {
        SecondTelling x = drawing(30);
        due("man 2", x.chance(5, 1, 2, 0), -1);
        due("thing 1", x.chance(5, 1, 0, 1), -1);
        for (int none : NO_NUMBERS) {
            due("man " + none, x.chance(5, 1, none, 0), -1);
            due("thing " + none, x.chance(5, 1, 0, none), -1);
        }
    }

    @Says("numbers from a seed 0 .. 2147483647 on")
    static void promise32_theNumbersOfDaysThatGoByStay() {
        String text = "man a 1;man b 2;thing t 0 9;sees a t;way a b 1;talk 20;seed 5;";
        SecondTelling x = of(text, 1);
        String before = stateOf(x);
        x.chance(77, 99, 1, 0);
        due("state", stateOf(x), before);
        x.go(98);
        due("as without it", x.has(1, 0, 1), of(text, 99).has(1, 0, 1));
    }

    // ---------------------------------------------------------------- 33

    private static final String TRIED = "man a 0;man b 3;man c 0;thing t 0 9;sees a t;sees c t;way a b 1;tell b t 2;tell c t 2;near 0;far 0;";

    @Says("TRIED (n 0 .. 200)")
    static void promise33_for0And200Days() {
        SecondTelling x = of(TRIED);
        due("0", x.tried(0, 0, 0), 0);
        due("2", x.tried(0, 0, 2), 0);
        due("3", x.tried(0, 0, 3), 1);
        due("200", x.tried(0, 0, 200), 1);
    }

    @Says("NONE: no such ones (i 0 of all but 2)")
    static void promise33_noSuchDays() {
        SecondTelling x = of(TRIED);
        for (int n : new int[] {201, -1, Integer.MIN_VALUE, Integer.MAX_VALUE}) {
            for (int what = 0; what <= 4; what++) {
                due("tried " + what + " for " + n, x.tried(what, 0, n), -1);
            }
        }
    }

    @Says("NONE: no such ones (i 0 of all but 2)")
    static void promise33_noOtherWhat() {
        SecondTelling x = of(TRIED);
        due("5", x.tried(5, 0, 9), -1);
        for (int none : NO_NUMBERS) {
            due("what " + none, x.tried(none, 0, 9), -1);
        }
    }

    @Says("NONE: no such ones (i 0 of all but 2)")
    static void promise33_i0OfAllBut2() {
        SecondTelling x = of(TRIED);
        for (int what : new int[] {0, 1, 3, 4}) {
            due("tried " + what + " with 0", x.tried(what, 0, 9), what == 1 ? 0 : 1);
            due("tried " + what + " with 1", x.tried(what, 1, 9), -1);
            due("tried " + what + " with -1", x.tried(what, -1, 9), -1);
        }
    }

    @Says("2 nothing goes by WAYS from PERSON i")
    static void promise33_noSuchPerson() {
        SecondTelling x = of(TRIED);
        due("a", x.tried(2, 0, 9), 0);
        due("c", x.tried(2, 2, 9), 1);
        due("man 3", x.tried(2, 3, 9), -1);
        for (int none : NO_NUMBERS) {
            due("man " + none, x.tried(2, none, 9), -1);
        }
        due("nobody", of("thing t 0 9;").tried(2, 0, 9), -1);
    }

    @Says("how many THINGS more are NEWS")
    static void promise33_whatIsNewsIsntMore() {
        SecondTelling x = of(TRIED, 2);
        due("to come", x.tried(0, 0, 9), 1);
        x.go(1);
        due("it is news", x.count(6), 1);
        due("no more", x.tried(0, 0, 200), 0);
        due("nor less", x.tried(1, 0, 200), 0);
    }

    @Says("0 they talk always in (2), 1 never")
    static void promise33_theyTalkAlwaysOrNever() {
        due("always with talk 0", of(TRIED + "talk 0;").tried(0, 0, 9), 1);
        due("always with talk 49", of(TRIED + "talk 49;").tried(0, 0, 9), 1);
        due("never with talk 100", of(TRIED + "talk 100;").tried(1, 0, 9), 0);
        due("never with talk 50", of(TRIED + "talk 50;").tried(1, 0, 9), 0);
    }

    @Says("3 all are BENT 0 (bent, too)")
    static void promise33_allAreBent0() {
        String bent = TRIED.replace("man a 0;", "man a 9;");
        due("as it is", of(bent).ahead(9, 0, 0), 0);
        due("bent 0", of(bent).tried(3, 0, 9), 1);
        due("bent of a law, too", of(bent + "law change hats+bent;").tried(3, 0, 9), 1);
    }

    @Says("4 E of fits isn't asked, all is APART as it should (CHAINS are looked at all the same)")
    static void promise33_fitsIsntAsked() {
        String bent = TRIED.replace("man a 0;", "man a 9;");
        due("apart by 9 with far 0", of(bent).tried(4, 0, 9), 1);
        due("law fits 0", of(TRIED + "law fits 0;").tried(4, 0, 9), 1);
        due("near beyond far", of(TRIED.replace("near 0;", "near 5;")).tried(4, 0, 9), 1);
        due("joined", of(TRIED.replace("tell c t 2;", "tell a t 2;")).tried(4, 0, 9), 0);
    }

    @Says("2 nothing goes by WAYS from PERSON i")
    static void promise33_nothingFromEachPerson() {
        String text = "man a 1;man b 1;man c 1;man d 1;thing t 0 9;sees a t;sees d t;way a b 1;way b c 1;tell c t 3;tell d t 3;";
        int[] news = {0, 0, 1, 1};
        for (int man = 0; man < 4; man++) {
            due("from " + man, of(text).tried(2, man, 9), news[man]);
        }
    }

    @Says("TRIED for n DAYS as it goes")
    static void promise33_whatIsTriedDoesntStay() {
        String text = "man a 4;man b 2;man c 3;thing t 0 9;sees a t;sees c t;way a b 1;tell b t 3;tell c t 3;law change hats+bent;law fits apart=4;";
        SecondTelling x = of(text, 1);
        for (int what = 0; what <= 4; what++) {
            x.tried(what, 0, 9);
            due("change behind " + what, x.law(0, 0, 0, 0), 13);
            x.tried(what, 0, 9);
            due("fits behind " + what, x.law(1, 0, 0, 2), 0);
            x.tried(what, 0, 9);
            due("pairs behind " + what, x.pairs(0), 0);
            x.tried(what, 0, 9);
            due("rests behind " + what, x.rests(0, 2, 0), 2);
            x.tried(what, 0, 9);
            due("ahead behind " + what, x.ahead(3, 0, 0), 1);
            x.tried(what, 0, 9);
            due("hear behind " + what, x.hear(1, 0, 0), 13);
            x.tried(what, 0, 9);
            due("tell behind " + what, x.tell(2, 0), 0);
            x.tried(what, 0, 9);
            due("match behind " + what, x.match(0), 1);
            x.undo();
            x.undo();
        }
        x.tried(2, 0, 9);
        x.go(1);
        due("b hears it", x.has(1, 0, 0), 13);
    }

    // ---------------------------------------------------------------- 34

    @Says("NONE: none")
    static void promise34_nothingToUndo() {
        due("of a new one", new SecondTelling().undo(), -1);
        SecondTelling x = of(ROW, 1);
        due("days alone", x.undo(), -1);
        x.forget(0, 0);
        due("one", x.undo(), 0);
        due("and no more", x.undo(), -1);
        due("none are left", x.count(13), 0);
    }

    @Says("the latest first (20 at most)")
    static void promise34_20AtMost() {
        SecondTelling x = of(ROW, 1);
        for (int i = 1; i <= 10; i++) {
            x.hear(1, 0, 0);
            x.forget(1, 0);
            due("to undo", x.count(13), 2 * i);
        }
        x.tell(0, 0);
        due("the 21st", x.count(13), 20);
        due("it is undone", x.undo(), 19);
        due("nothing printed", x.count(8), 0);
        for (int left = 18; left >= 0; left--) {
            due("on", x.undo(), left);
        }
        due("not the first one", x.undo(), -1);
        due("b has it by the first one", x.has(1, 0, 0), 14);
    }

    @Says("the latest first (20 at most)")
    static void promise34_20AreAllUndone() {
        SecondTelling x = of(ROW, 1);
        String before = stateOf(x);
        for (int i = 1; i <= 10; i++) {
            x.hear(1, 0, 0);
            x.forget(1, 0);
        }
        for (int left = 19; left >= 0; left--) {
            due("on", x.undo(), left);
        }
        due("as at first", stateOf(x), before);
    }

    @Says("if no DAY went by since")
    static void promise34_ifNoDayWentBy() {
        SecondTelling x = of(ROW, 1);
        x.forget(0, 0);
        due("no days", x.go(0), 1);
        due("to undo", x.count(13), 1);
        due("a refused go", x.go(201), -1);
        due("to undo still", x.count(13), 1);
        x.go(1);
        due("a day", x.count(13), 0);
        due("undo", x.undo(), -1);
        due("forgotten", x.has(0, 0, 0), -2);
    }

    @Says("Hearing, telling (PRINTED, NEWS, SPACE), forgetting by call can be undone")
    static void promise34_whatIsRefusedIsntUndone() {
        SecondTelling x = of(ROW, 1);
        x.hear(0, 0, 0);
        x.hear(2, 1, 0);
        x.hear(9, 0, 0);
        x.tell(1, 0);
        x.tell(9, 0);
        x.forget(1, 0);
        x.forget(9, 0);
        due("nothing", x.count(13), 0);
        due("undo", x.undo(), -1);
    }

    @Says("Hearing, telling (PRINTED, NEWS, SPACE), forgetting by call can be undone")
    static void promise34_newsAndSpaceAreUndone() {
        SecondTelling x = of("man a 0;man b 0;thing t 0 9;sees a t;sees b t;near 0;law print 7;", 1);
        x.tell(0, 0);
        String before = stateOf(x);
        due("news", x.tell(1, 0), 1);
        due("space", x.count(9), 7);
        due("undone", x.undo(), 1);
        due("as before", stateOf(x), before);
        due("news again", x.tell(1, 0), 1);
    }

    @Says("Hearing, telling (PRINTED, NEWS, SPACE), forgetting by call can be undone")
    static void promise34_hearingAndForgettingAreUndone() {
        SecondTelling x = of(ROW.replace("c 0", "c 3"), 2);
        String before = stateOf(x);
        x.forget(1, 0);
        x.hear(2, 0, 0);
        due("other hats", x.hear(1, 2, 0), 17);
        due("two are left", x.undo(), 2);
        due("b hasn't it", x.has(1, 0, 0), -2);
        due("one is left", x.undo(), 1);
        due("c hasn't it", x.has(2, 0, 0), -2);
        due("none", x.undo(), 0);
        due("as before", stateOf(x), before);
    }

    @Says("Hearing, telling (PRINTED, NEWS, SPACE), forgetting by call can be undone")
    static void promise34_spaceIsAsItWasAhead() {
        SecondTelling x = of("man a 0;man b 0;thing t 0 9;thing u 0 9;sees a t;sees b t;sees a u;sees b u;near 0;law print 7;", 1);
        x.tell(0, 0);
        due("t is news", x.tell(1, 0), 1);
        x.tell(0, 1);
        String before = stateOf(x);
        due("u is news", x.tell(1, 1), 1);
        due("space", x.count(9), 14);
        x.undo();
        due("as before", stateOf(x), before);
    }

    /** h: the first one hears it from the second one, t: he tells it, f: he forgets it; a, b, c and t, u by their names. */
    private static void doAll(SecondTelling x, String deeds) {
        for (String deed : deeds.split(" ")) {
            int man = deed.charAt(1) - 'a';
            int thing = deed.charAt(deed.length() - 1) - 't';
            boolean done = switch (deed.charAt(0)) {
                case 'h' -> x.hear(man, deed.charAt(2) - 'a', thing) >= 0;
                case 't' -> x.tell(man, thing) >= 0;
                default -> x.forget(man, thing);
            };
            due(deed, done, true);
        }
    }

    @Says("the latest first (20 at most)")
    static void promise34_theTwentyBehindTheFirstFive() {
        String text = "man a 1;man b 2;man c 3;thing t 0 9;thing u 0 50;sees a t;sees b u;sees c t;sees c u;near 0;far 99;law print 7;";
        String five = "tat tct hbat fcu habu";
        SecondTelling x = of(text, 1);
        doAll(x, five);
        due("news among the first five", x.count(9), 7);
        doAll(x, "tbt hcau fat hact fbt hbct tbu tau fcu hcbu tcu fau hacu fbu hbau fct hcbt fbt hbct fat");
        due("twenty", x.count(13), 20);
        for (int left = 19; left >= 0; left--) {
            due("on", x.undo(), left);
        }
        SecondTelling y = of(text, 1);
        doAll(y, five);
        y.keep();
        y.back();
        due("as behind the first five", stateOf(x), stateOf(y));
    }

    // ---------------------------------------------------------------- 35

    @Says("in place of one ahead")
    static void promise35_inPlaceOfOneAhead() {
        SecondTelling x = of(ROW);
        due("day 0", x.keep(), 0);
        x.go(3);
        due("day 3", x.keep(), 3);
        x.go(3);
        due("the latest", x.back(), 3);
        due("and no other", x.back(), 3);
    }

    @Says("which DAY it is")
    static void promise35_theFirstAndTheLastDay() {
        due("of a new one", new SecondTelling().keep(), 0);
        SecondTelling x = of(ROW);
        for (int i = 0; i < 49; i++) {
            x.go(200);
        }
        due("day 9800", x.keep(), 9800);
        due("back to it", x.back(), 9800);
    }

    @Says("An IMAGE is kept")
    static void promise35_whatCanBeUndoneStays() {
        SecondTelling x = of(ROW, 1);
        x.forget(0, 0);
        x.keep();
        due("to undo", x.count(13), 1);
        due("undone", x.undo(), 0);
        due("he has it", x.has(0, 0, 0), 10);
        due("but not in the image", x.back(), 1);
        due("forgotten", x.has(0, 0, 0), -2);
    }

    // ---------------------------------------------------------------- 36

    @Says("NONE: there is none")
    static void promise36_thereIsNone() {
        due("of a new one", new SecondTelling().back(), -1);
        SecondTelling x = of(ROW, 2);
        x.forget(0, 0);
        String before = stateOf(x);
        due("back", x.back(), -1);
        due("nothing changed", stateOf(x), before);
    }

    @Says("All (but what was SEEN) is as in the IMAGE")
    static void promise36_allIsAsInTheImage() {
        SecondTelling x = of(TOWN.replace("marsh 2", "marsh 4") + "tell ann marsh 0;tell ann marsh 5;", 3);
        x.keep();
        String kept = stateOf(x);
        due("bo's telling is printed", x.thing(0, 4), 2);
        due("one is idle", x.count(10), 1);
        due("it is news then", x.tell(2, 0), 1);
        x.forget(0, 0);
        x.forget(1, 0);
        due("bo hears it anew", x.hear(1, 3, 0), 15);
        x.go(9);
        due("more are idle", x.count(10), 4);
        due("di has the marsh", x.has(3, 1, 0), 40);
        due("back", x.back(), 3);
        due("as it was", stateOf(x), kept);
        due("and news once more", x.tell(2, 0), 1);
    }

    @Says("All (but what was SEEN) is as in the IMAGE")
    static void promise36_theChainOfWhatIsPrinted() {
        SecondTelling x = of("man a 0;man b 0;man c 0;thing t 0 9;sees a t;sees c t;near 0;", 1);
        x.hear(1, 0, 0);
        due("b tells it, by a", x.tell(1, 0), 0);
        x.keep();
        x.undo();
        x.forget(1, 0);
        x.hear(1, 2, 0);
        due("b tells it, by c", x.tell(1, 0), 0);
        due("back", x.back(), 1);
        due("a is joined with it", x.tell(0, 0), 0);
        due("c isn't", x.tell(2, 0), 1);
    }

    @Says("All (but what was SEEN) is as in the IMAGE")
    static void promise36_whatWasSeenStays() {
        SecondTelling x = of(ROW, 1);
        x.see(2, 1, 0, 14, true);
        x.keep();
        x.see(2, 1, 0, 15, true);
        due("back", x.back(), 1);
        due("both are seen", x.count(11), 2);
        due("bents", x.bents(0), 0);
        due("a third", x.strike(1), 2);
    }

    @Says("nothing to undo then")
    static void promise36_nothingToUndoThen() {
        SecondTelling x = of(ROW, 1);
        x.forget(0, 0);
        x.keep();
        due("back", x.back(), 1);
        due("how many", x.count(13), 0);
        due("undo", x.undo(), -1);
    }

    @Says("An IMAGE keeps all but what was SEEN.")
    static void promise36_theLastNumberIsKept() {
        String text = "man a 1;man b 2;thing t 0 9;sees a t;way a b 1;talk 10;seed 4321;";
        SecondTelling x = of(text, 3);
        x.keep();
        due("not heard yet", x.has(1, 0, 0), -2);
        x.go(90);
        int heard = x.has(1, 0, 1);
        due("heard", heard > 3, true);
        x.back();
        x.go(90);
        due("heard on the same day", x.has(1, 0, 1), heard);
    }

    // ---------------------------------------------------------------- 37

    @Says("NONE for another what")
    static void promise37_noOtherWhat() {
        SecondTelling x = of(ROW, 3);
        for (int what : new int[] {-1, 14, 31, 32, Integer.MIN_VALUE, Integer.MAX_VALUE}) {
            due("count " + what, x.count(what), -1);
        }
        due("13", x.count(13), 0);
    }

    @Says("0 PEOPLE, 1 THINGS, 2 WAYS, 3 TELLS told, 4 KNOTS")
    static void promise37_asManyAsThereCanBe() {
        SecondTelling x = of(SEVEN + SIX + many("way a b 1;", 12) + many("tell a a 1;", 12) + "law fits not 1" + many("+1", 31) + ";");
        int[] most = {7, 6, 12, 12, 64};
        for (int what = 0; what < most.length; what++) {
            due("count " + what, x.count(what), most[what]);
        }
    }

    @Says("7 how many PEOPLE HAVE how many THINGS in sum, 8 TELLINGS that are PRINTED")
    static void promise37_allHaveAllThings() {
        SecondTelling x = of(SEVEN + SIX + "sees a a;sees a b;sees a c;sees a d;sees a e;sees a f;"
                + "way a b 1;way a c 1;way a d 1;way a e 1;way a f 1;way a g 1;", 3);
        due("42", x.count(7), 42);
        for (int man = 0; man < 7; man++) {
            for (int thing = 0; thing < 6; thing++) {
                due("told", x.tell(man, thing), 0);
            }
        }
        due("42 printed", x.count(8), 42);
        due("20 can be undone", x.count(13), 20);
        due("no news: all are joined", x.count(6), 0);
    }

    @Says("11 SEEN, 12 by how many it is KNOWN")
    static void promise37_knownByNoneAndByAll() {
        SecondTelling x = withSeen(24);
        due("seen", x.count(11), 24);
        due("by all", x.count(12), 24);
        x.known(0);
        due("by none", x.count(12), 0);
        x.known(24);
        due("by 24", x.count(12), 24);
        due("none seen", of(ROW).count(12), 0);
    }
}
