import java.math.BigInteger;

/** Promises 14 to 26, sentence by sentence: what comes, who can hear, whom to hush, matches, games, odds, at their edges. */
public final class EdgesOfAskingTest extends Check {
    /** The sixth THING is seen by two, told by both on DAY 3, and heard by g on DAY 1. */
    private static final String SIXTH = SEVEN + SIX.replace(" 1 1;", " 0 1;") + "sees a f;sees f f;way f g 1;tell a f 3;tell f f 3;near 0;";
    /** a and b by sight as 40, c by nobody yet; any two that aren't joined fit. */
    private static final String THREE = "man a 0;man b 0;man c 0;thing t 0 40;sees a t;sees b t;near 0;";
    private static final String ALL_SEE = SEVEN + "thing t 0 9;sees a t;sees b t;sees c t;sees d t;sees e t;sees f t;sees g t;near 0;";

    public static void main(String[] args) throws Exception {
        runAll(EdgesOfAskingTest.class, 14, 26);
    }

    // ---------------------------------------------------------------- 14

    @Says("AHEAD (n 0 .. 200)")
    static void promise14_for0DaysItIsAsNow() {
        SecondTelling x = of(TOWN, 3);
        due("news", x.ahead(0, 0, 0), 0);
        due("have it", x.ahead(0, 1, 0), 4);
        due("space", x.ahead(0, 2, 0), 0);
        due("idle", x.ahead(0, 3, 0), 0);
    }

    @Says("AHEAD (n 0 .. 200)")
    static void promise14_for200Days() {
        SecondTelling x = of(TOWN + "tell ann marsh 98;tell ann marsh 99;law print 7;");
        due("news", x.ahead(200, 0, 0), 1);
        due("have it", x.ahead(200, 1, 0), 4);
        due("space", x.ahead(200, 2, 0), 7);
        due("idle", x.ahead(200, 3, 0), 2);
        due("idle a day ahead of it", x.ahead(99, 3, 0), 1);
        due("idle with it", x.ahead(100, 3, 0), 2);
    }

    @Says("NONE: no such ones")
    static void promise14_noSuchDays() {
        SecondTelling x = of(TOWN);
        for (int n : new int[] {201, -1, Integer.MAX_VALUE, Integer.MIN_VALUE}) {
            for (int what = 0; what <= 3; what++) {
                due("ahead " + n + " " + what, x.ahead(n, what, 0), -1);
            }
        }
    }

    @Says("what 0 NEWS, 1 how many HAVE THING i, 2 SPACE, 3 IDLE")
    static void promise14_noOtherWhat() {
        SecondTelling x = of(TOWN);
        for (int what : new int[] {-1, 4, Integer.MAX_VALUE, Integer.MIN_VALUE}) {
            due("what " + what, x.ahead(1, what, 0), -1);
        }
    }

    @Says("1 how many HAVE THING i")
    static void promise14_noSuchThing() {
        SecondTelling x = of(TOWN);
        due("thing 2", x.ahead(1, 1, 2), -1);
        for (int none : NO_NUMBERS) {
            due("thing " + none, x.ahead(1, 1, none), -1);
        }
    }

    @Says("of 0, 2, 3 i isn't looked at")
    static void promise14_iIsntLookedAt() {
        SecondTelling x = of(TOWN + "tell ann marsh 1;tell ann marsh 1;law print 7;");
        for (int none : NO_NUMBERS) {
            due("news, i " + none, x.ahead(4, 0, none), 1);
            due("space, i " + none, x.ahead(4, 2, none), 7);
            due("idle, i " + none, x.ahead(4, 3, none), 2);
        }
    }

    @Says("SPACE more, IDLE more")
    static void promise14_moreThanNow() {
        SecondTelling x = of(TOWN + "tell ann marsh 1;tell ann marsh 6;tell ann marsh 7;", 5);
        due("space by now", x.count(9), 1);
        due("idle by now", x.count(10), 1);
        due("news then, those of now too", x.ahead(9, 0, 0), 1);
        due("no more space", x.ahead(9, 2, 0), 0);
        due("two more idle", x.ahead(9, 3, 0), 2);
    }

    @Says("they talk, if talk is 50 at least")
    static void promise14_asItGoesFromATalkOf50On() {
        String text = "man a 1;man b 2;thing t 0 9;sees a t;way a b 1;seed 7;";
        due("0", of(text + "talk 0;").ahead(200, 1, 0), 1);
        due("49", of(text + "talk 49;").ahead(200, 1, 0), 1);
        due("50", of(text + "talk 50;").ahead(2, 1, 0), 2);
        due("100", of(text + "talk 100;").ahead(2, 1, 0), 2);
    }

    @Says("AHEAD for n DAYS as it goes")
    static void promise14_nothingGoesBy() {
        SecondTelling x = of(TOWN + "talk 50;", 1);
        x.tell(0, 0);
        String before = stateOf(x);
        x.ahead(200, 0, 0);
        x.when(0);
        x.hears(3, 1);
        x.hush(0);
        x.match(6);
        due("state", stateOf(x), before);
    }

    @Says("AHEAD for n DAYS as it goes")
    static void promise14_fromWhatIsNow() {
        SecondTelling x = of("man a 1;man b 2;thing t 3 9;thing u 3 9;sees a t;sees a u;way a b 5;tell b t 20;near 0;far 99;", 5);
        due("days are counted from when it was seen", x.ahead(3, 1, 0), 1);
        due("the day on which they are enough", x.ahead(4, 1, 0), 2);
        x.tell(0, 0);
        due("joined with what is printed", x.ahead(20, 0, 0), 0);
        x.forget(0, 1);
        due("forgotten", x.ahead(20, 1, 1), 0);
    }

    // ---------------------------------------------------------------- 15

    @Says("(0: it is)")
    static void promise15_itIsNews() {
        SecondTelling x = of(THREE + "tell a t 0;tell b t 0;");
        due("today", x.when(0), 1);
        x.go(1);
        due("it is, of day 0", x.when(0), 0);
        x.go(200);
        due("it stays so", x.when(0), 0);
    }

    /** Nobody tells behind DAY 99, so that 100 is the most there can be. */
    @Says("in how many DAYS as it goes, 199 at most, it is NEWS")
    static void promise15_theLatestThereCanBe() {
        SecondTelling x = of(THREE + "tell a t 0;tell b t 99;");
        due("from day 0", x.when(0), 100);
        x.go(99);
        due("from day 99", x.when(0), 1);
    }

    @Says("-2: not by then")
    static void promise15_notByThen() {
        due("nobody tells", of(THREE).when(0), -2);
        due("one tells alone", of(THREE + "tell a t 0;tell a t 9;").when(0), -2);
        due("nobody has it", of("thing t 0 9;").when(0), -2);
    }

    @Says("NONE: no such THING")
    static void promise15_noSuchThing() {
        SecondTelling x = of(THREE + "tell a t 0;tell b t 0;", 1);
        due("thing 1", x.when(1), -1);
        for (int none : NO_NUMBERS) {
            due("thing " + none, x.when(none), -1);
        }
    }

    @Says("WHEN of a THING")
    static void promise15_ofTheSixthThing() {
        SecondTelling x = of(SIXTH);
        due("the sixth", x.when(5), 4);
        due("the fifth", x.when(4), -2);
    }

    // ---------------------------------------------------------------- 16

    @Says("199 at most, he HAS it (0: he has)")
    static void promise16_heHasIt() {
        SecondTelling x = of(THREE);
        due("today", x.hears(0, 0), 1);
        x.go(1);
        due("he has", x.hears(0, 0), 0);
    }

    /** Seen on DAY 99, told on six times behind nine DAYS: there is no later hearing. */
    @Says("in how many DAYS as it goes, 199 at most, he HAS it")
    static void promise16_theLatestThereCanBe() {
        SecondTelling x = of(SEVEN + "thing t 99 1;sees a t;way a b 9;way b c 9;way c d 9;way d e 9;way e f 9;way f g 9;");
        due("the last one", x.hears(6, 0), 99 + 6 * 9 + 1);
        due("the first one", x.hears(0, 0), 100);
    }

    @Says("-2: not by then")
    static void promise16_notByThen() {
        SecondTelling x = of(THREE + "way a b 1;");
        due("no way to c", x.hears(2, 0), -2);
        x.go(1);
        x.forget(0, 0);
        x.forget(1, 0);
        due("nobody has it any more", x.hears(0, 0), -2);
        due("they don't talk", of("man a 1;man b 1;thing t 0 9;sees a t;way a b 1;talk 49;").hears(1, 0), -2);
    }

    @Says("NONE: no such ones")
    static void promise16_noSuchOnes() {
        SecondTelling x = of(THREE, 1);
        due("man 3", x.hears(3, 0), -1);
        due("thing 1", x.hears(0, 1), -1);
        for (int none : NO_NUMBERS) {
            due("man " + none, x.hears(none, 0), -1);
            due("thing " + none, x.hears(0, none), -1);
        }
    }

    @Says("HEARS of a PERSON and a THING")
    static void promise16_ofTheSeventhPersonAndTheSixthThing() {
        SecondTelling x = of(SIXTH);
        due("the sixth", x.hears(6, 5), 2);
        due("the fifth", x.hears(6, 4), -2);
    }

    // ---------------------------------------------------------------- 17

    @Says("-2: one hasn't it")
    static void promise17_oneHasntIt() {
        SecondTelling x = of(THREE, 1);
        due("the second one", x.joined(0, 2, 0), -2);
        due("the first one", x.joined(2, 0, 0), -2);
        x.hear(2, 0, 0);
        x.forget(0, 0);
        due("one who has it no more", x.joined(0, 2, 0), -2);
    }

    @Says("NONE: no such ones, alike")
    static void promise17_noSuchOnes() {
        SecondTelling x = of(THREE, 1);
        due("man 3", x.joined(3, 0, 0), -1);
        due("other 3", x.joined(0, 3, 0), -1);
        due("thing 1", x.joined(0, 1, 1), -1);
        for (int none : NO_NUMBERS) {
            due("man " + none, x.joined(none, 0, 0), -1);
            due("other " + none, x.joined(0, none, 0), -1);
            due("thing " + none, x.joined(0, 1, none), -1);
        }
    }

    @Says("NONE: no such ones, alike")
    static void promise17_alike() {
        SecondTelling x = of(THREE, 1);
        due("who has it", x.joined(0, 0, 0), -1);
        due("who hasn't it", x.joined(2, 2, 0), -1);
    }

    @Says("two who HAVE a THING whose CHAINS have one in common")
    static void promise17_joinedByOneWhoHasItNoMore() {
        SecondTelling x = of("man a 0;man b 0;man c 0;thing t 0 5;sees a t;", 1);
        x.hear(1, 0, 0);
        x.hear(2, 0, 0);
        x.forget(0, 0);
        due("by a", x.joined(1, 2, 0), 1);
        SecondTelling y = of("man a 0;man b 0;man c 0;thing t 0 5;sees a t;", 1);
        y.hear(1, 0, 0);
        y.hear(2, 1, 0);
        y.forget(1, 0);
        due("cut at b", y.joined(0, 2, 0), 0);
    }

    // ---------------------------------------------------------------- 18

    @Says("how many pairs of PEOPLE who HAVE it there are")
    static void promise18_nobodyOneAndAll() {
        SecondTelling x = of(ALL_SEE);
        due("nobody", x.pairs(0), 0);
        x.go(1);
        due("all seven", x.pairs(0), 21);
        for (int man = 0; man < 6; man++) {
            x.forget(man, 0);
        }
        due("the last one alone", x.pairs(0), 0);
        SecondTelling y = of(ALL_SEE, 1);
        for (int man = 1; man < 7; man++) {
            y.forget(man, 0);
        }
        due("the first one alone", y.pairs(0), 0);
    }

    @Says("nothing PRINTED looked at but for told")
    static void promise18_nothingPrintedIsLookedAt() {
        SecondTelling x = of(ALL_SEE, 1);
        x.tell(0, 0);
        x.tell(1, 0);
        due("news", x.count(6), 1);
        due("as many pairs", x.pairs(0), 21);
        SecondTelling y = of(ALL_SEE + "law fits told=2;", 1);
        due("none told", y.pairs(0), 0);
        y.tell(0, 0);
        due("one told", y.pairs(0), 0);
        y.tell(1, 0);
        due("two told", y.pairs(0), 21);
    }

    @Says("the one of the greater number as the later one")
    static void promise18_theGreaterNumberIsTheLaterOne() {
        SecondTelling x = of("man a 1;man b 2;man c 3;thing t 0 9;sees a t;sees b t;sees c t;law fits bent=2;", 1);
        due("b behind a alone", x.pairs(0), 1);
    }

    @Says("NONE: no such THING")
    static void promise18_noSuchThing() {
        SecondTelling x = of(ALL_SEE, 1);
        due("thing 1", x.pairs(1), -1);
        for (int none : NO_NUMBERS) {
            due("thing " + none, x.pairs(none), -1);
        }
    }

    // ---------------------------------------------------------------- 19

    @Says("he as well")
    static void promise19_whoHasNoWayReachesHimself() {
        SecondTelling x = of(SEVEN);
        for (int man = 0; man < 7; man++) {
            due("man " + man, x.reach(man), 1 << man);
        }
    }

    @Says("one behind another")
    static void promise19_allSevenInARow() {
        SecondTelling x = of(SEVEN + "way f g 9;way e f 9;way d e 9;way c d 9;way b c 9;way a b 9;");
        due("from the first one", x.reach(0), 127);
        due("from the last one", x.reach(6), 64);
        SecondTelling ring = of(SEVEN + "way a b 1;way b c 1;way c a 1;");
        due("a ring", ring.reach(1), 7);
    }

    @Says("WAYS, at most 12")
    static void promise19_byTheTwelfthWay() {
        String eleven = SEVEN + many("way a b 1;", 11);
        due("eleven", of(eleven).reach(0), 3);
        due("the twelfth", of(eleven + "way b g 1;").reach(0), 67);
        SecondTelling x = of(eleven + "way b g 1;");
        load(x, SEVEN);
        due("behind a text with none", x.reach(0), 1);
        load(x, SEVEN);
        due("and another one", x.reach(1), 2);
    }

    @Says("to whom WAYS (whatever talk) lead from him")
    static void promise19_whateverTalk() {
        due("talk 0", of("man a 1;man b 1;way a b 1;talk 0;").reach(0), 3);
        due("talk 49", of("man a 1;man b 1;way a b 1;talk 49;").reach(0), 3);
    }

    @Says("NONE: no such PERSON")
    static void promise19_noSuchPerson() {
        SecondTelling x = of(THREE);
        due("man 3", x.reach(3), -1);
        due("an eighth", of(SEVEN).reach(7), -1);
        for (int none : NO_NUMBERS) {
            due("man " + none, x.reach(none), -1);
        }
    }

    // ---------------------------------------------------------------- 20

    @Says("0: it isn't NEWS then as it is")
    static void promise20_itIsNoneAsItIs() {
        due("nobody tells", of(THREE).hush(0), 0);
        due("one tells", of(THREE + "tell a t 1;").hush(0), 0);
        due("nobody", of("thing t 0 9;").hush(0), 0);
        due("they don't talk", of("man a 1;man b 0;man c 0;thing t 0 9;sees a t;sees c t;way a b 1;tell b t 3;tell c t 3;talk 49;").hush(0), 0);
    }

    @Says("-2: it is NEWS already")
    static void promise20_itIsNewsAlready() {
        SecondTelling x = of(THREE + "tell a t 0;tell b t 0;");
        due("not yet", x.hush(0), 1);
        x.go(1);
        due("it is, of day 0", x.hush(0), -2);
    }

    @Says("NONE: no such THING")
    static void promise20_noSuchThing() {
        SecondTelling x = of(THREE + "tell a t 0;tell b t 0;", 1);
        due("thing 1", x.hush(1), -1);
        for (int none : NO_NUMBERS) {
            due("thing " + none, x.hush(none), -1);
        }
    }

    @Says("it isn't NEWS till 60 DAYS from now as it goes")
    static void promise20_till60DaysFromNow() {
        due("the 60th day", of(THREE + "tell a t 0;tell b t 59;").hush(0), 1);
        due("the day behind it", of(THREE + "tell a t 0;tell b t 60;").hush(0), 0);
        SecondTelling x = of(THREE + "tell a t 0;tell b t 60;", 1);
        due("from day 1 on", x.hush(0), 2);
        due("the later one told first", of(THREE + "tell b t 59;tell a t 0;").hush(0), 1);
        due("twelve told", of(THREE + "tell b t 59;" + many("tell a t 0;", 11)).hush(0), 1);
        SecondTelling y = of(THREE + "tell a t 0;tell b t 99;", 39);
        due("day 99 from day 39", y.hush(0), 0);
        y.go(1);
        due("from day 40", y.hush(0), 2);
    }

    @Says("the fewest PEOPLE (bits, of several the least) such that, if nothing goes by WAYS from them")
    static void promise20_theFewestOfSeveralTheLeast() {
        String tells = "tell c t 1;tell b t 1;tell a t 1;";
        due("two of three", of(THREE + "sees c t;" + tells).hush(0), 3);
        due("the lesser of two", of(THREE + "sees c t;tell c t 1;tell b t 1;").hush(0), 2);
        due("all but one of seven", of(ALL_SEE + "tell a t 1;tell b t 1;tell c t 1;tell d t 1;tell e t 1;tell f t 1;tell g t 1;").hush(0), 63);
    }

    @Says("the fewest PEOPLE (bits, of several the least) such that, if nothing goes by WAYS from them")
    static void promise20_oneOfAGreaterNumberIsFewerThanTwo() {
        // a, b are joined by then, so that c alone makes it news; the two of them would have to be hushed in his place
        SecondTelling x = of("man a 0;man b 0;man c 0;thing t 0 40;sees a t;sees c t;way a b 1;tell a t 2;tell b t 2;tell c t 2;law fits 1;", 2);
        due("c alone", x.hush(0), 4);
    }

    @Says("if nothing goes by WAYS from them")
    static void promise20_nothingGoesByWaysFromTheHushed() {
        due("ann, for bo has it from her", of(TOWN).hush(0), 1);
        due("the third one", of("man x 0;man y 0;man a 1;man b 0;man c 0;thing t 0 9;sees a t;sees c t;way a b 1;way a x 1;tell x t 2;tell b t 2;"
                + "tell c t 2;tell y t 2;").hush(0), 4);
    }

    @Says("their TELLS aren't")
    static void promise20_tellsOfTheHushedArent() {
        SecondTelling x = of(THREE + "tell b t 3;", 1);
        x.tell(0, 0);
        due("what is printed counts on, b is to hush", x.hush(0), 2);
    }

    @Says("(they hear)")
    static void promise20_theHushedHear() {
        // it fits if all three have it: to hush a, who hears it, would be of no use
        due("a hears", of("man a 0;man b 0;man c 0;thing t 0 9;sees b t;sees c t;way b a 1;tell b t 2;tell c t 2;law fits many=3;").hush(0), 2);
    }

    @Says("HUSH of a THING")
    static void promise20_ofTheSixthThing() {
        SecondTelling x = of(SIXTH);
        due("the sixth", x.hush(5), 1);
        due("the fifth", x.hush(4), 0);
    }

    // ---------------------------------------------------------------- 21

    @Says("0 of no PEOPLE")
    static void promise21_noPeople() {
        due("of a new one", new SecondTelling().spread(), 0);
        due("things alone", of("thing t 1 1;").spread(), 0);
    }

    @Says("such that REACHES of these are all PEOPLE")
    static void promise21_allPeopleWithoutWays() {
        due("one", of("man a 1;").spread(), 1);
        due("seven", of(SEVEN).spread(), 127);
    }

    @Says("the fewest PEOPLE (bits, of several the least) such that REACHES")
    static void promise21_theFewestOfSeveralTheLeast() {
        due("a ring", of(SEVEN + "way a b 1;way b c 1;way c d 1;way d e 1;way e f 1;way f g 1;way g a 1;").spread(), 1);
        due("the last one alone", of(SEVEN + "way g f 1;way f e 1;way e d 1;way d c 1;way c b 1;way b a 1;").spread(), 64);
        due("the lesser of two", of("man a 1;man b 1;man c 1;way b c 1;way c b 1;").spread(), 3);
        due("one greater is fewer than two lesser", of("man a 1;man b 1;man c 1;way c a 1;way c b 1;").spread(), 4);
        due("whatever talk", of("man a 1;man b 1;way b a 1;talk 0;").spread(), 2);
    }

    // ---------------------------------------------------------------- 22

    @Says("THINGS (bits) that only one PERSON HAS")
    static void promise22_nobodyOneAndTwo() {
        SecondTelling x = of("man a 0;man b 0;thing t 0 1;sees a t;");
        due("nobody", x.lone(), 0);
        x.go(1);
        due("one", x.lone(), 1);
        x.hear(1, 0, 0);
        due("two", x.lone(), 0);
        x.forget(0, 0);
        due("one again", x.lone(), 1);
        due("of a new one", new SecondTelling().lone(), 0);
    }

    @Says("THINGS (bits) that only one PERSON HAS")
    static void promise22_allSixThings() {
        due("six", of("man a 1;" + SIX + "sees a a;sees a b;sees a c;sees a d;sees a e;sees a f;", 2).lone(), 63);
    }

    // ---------------------------------------------------------------- 23

    @Says("what 0 .. 5: the PERSON for that THING (-2: none, there are not so many)")
    static void promise23_thereAreNotSoMany() {
        SecondTelling x = of(THREE, 1);
        x.tell(0, 0);
        due("the one there is", x.match(0), 1);
        for (int thing = 1; thing <= 5; thing++) {
            due("thing " + thing, x.match(thing), -2);
        }
        for (int thing = 0; thing <= 5; thing++) {
            due("of a new one, thing " + thing, new SecondTelling().match(thing), -2);
        }
    }

    @Says("the PERSON for that THING (-2: none")
    static void promise23_noneForAThing() {
        SecondTelling x = of(THREE, 1);
        due("nothing printed", x.match(0), -2);
        due("how many", x.match(6), 0);
        x.tell(0, 0);
        x.forget(1, 0);
        due("nobody else has it", x.match(0), -2);
        due("of a new one", new SecondTelling().match(6), 0);
    }

    @Says("NONE for another what")
    static void promise23_noOtherWhat() {
        SecondTelling x = of(THREE, 1);
        x.tell(0, 0);
        due("7", x.match(7), -1);
        for (int none : NO_NUMBERS) {
            due("what " + none, x.match(none), -1);
        }
    }

    @Says("for each THING that isn't NEWS a PERSON, or none")
    static void promise23_newsHasNone() {
        SecondTelling x = of(THREE + "sees c t;", 1);
        x.tell(0, 0);
        due("b would make it news", x.match(0), 1);
        x.tell(1, 0);
        due("it is news, though c would fit", x.match(0), -2);
        due("how many", x.match(6), 0);
        SecondTelling y = of(THREE + "sees c t;tell a t 0;tell b t 0;", 1);
        due("news of day 0", y.match(0), -2);
    }

    @Says("who HAS it, of whom no TELLING of it is PRINTED")
    static void promise23_whoseTellingIsPrintedIsNone() {
        SecondTelling x = of("man a 3;man b 0;man c 0;thing t 0 40;sees a t;sees c t;", 1);
        x.hear(1, 0, 0);
        x.tell(0, 0);
        x.tell(2, 0);
        due("no news yet", x.count(6), 0);
        due("b, apart from c by 3", x.match(0), 1);
        x.tell(1, 0);
        due("all are printed", x.match(0), -2);
    }

    @Says("none for two")
    static void promise23_nobodyIsMatchedTwice() {
        SecondTelling x = of("man a 0;man b 0;thing t 0 9;thing u 0 9;sees a t;sees a u;sees b t;sees b u;near 0;", 1);
        x.tell(0, 0);
        x.tell(0, 1);
        due("t has b", x.match(0), 1);
        due("so u has none", x.match(1), -2);
        due("one", x.match(6), 1);
    }

    @Says("so that as many THINGS as may be have one, of several the first by THINGS (PEOPLE by numbers, none is last)")
    static void promise23_theMostThenTheFirstByThings() {
        SecondTelling x = of("man a 0;man b 0;man c 0;thing t 0 9;thing u 0 9;thing v 0 9;near 0;"
                + "sees a t;sees b t;sees c t;sees a u;sees c u;sees b v;sees c v;", 1);
        x.tell(2, 0);
        due("t alone: the first of two", x.match(0), 0);
        x.tell(2, 1);
        due("u has a alone", x.match(1), 0);
        due("so t has b", x.match(0), 1);
        x.tell(2, 2);
        due("of three two can have one", x.match(6), 2);
        due("t has the first one", x.match(0), 0);
        due("u has none", x.match(1), -2);
        due("v has b", x.match(2), 1);
    }

    @Says("of several the first by THINGS (PEOPLE by numbers, none is last)")
    static void promise23_theFirstPersonForEachThing() {
        SecondTelling x = of("man a 0;man b 0;man c 0;man d 0;thing t 0 9;thing u 0 9;near 0;"
                + "sees a t;sees b t;sees c t;sees d t;sees a u;sees b u;sees c u;sees d u;", 1);
        x.tell(3, 0);
        x.tell(3, 1);
        due("t has a", x.match(0), 0);
        due("u has b", x.match(1), 1);
        due("both", x.match(6), 2);
    }

    @Says("so that as many THINGS as may be have one")
    static void promise23_allSixThings() {
        SecondTelling x = of("man a 0;man b 0;man c 0;man d 0;man e 0;man f 0;man g 0;near 0;" + SIX.replace(" 1 1;", " 0 1;")
                + "sees a a;sees b b;sees c c;sees d d;sees e e;sees f f;", 1);
        for (int thing = 0; thing < 6; thing++) {
            // the next one has it from g, who has it no more: so he isn't joined with who saw it
            x.hear(6, thing, thing);
            x.hear((thing + 1) % 6, 6, thing);
            x.forget(6, thing);
            x.tell(thing, thing);
        }
        due("six", x.match(6), 6);
        for (int thing = 0; thing < 6; thing++) {
            due("thing " + thing, x.match(thing), (thing + 1) % 6);
        }
    }

    // ---------------------------------------------------------------- 24, 25

    @Says("How many RESTS the GAME has")
    static void promise24_oneOrTwo() {
        SecondTelling x = of("man a 0;man b 0;man c 0;thing t 0 40;sees a t;sees b t;near 0;", 1);
        x.hear(2, 0, 0);
        due("they fit", x.rests(0, 1, 0), 1);
        due("the other way", x.rests(1, 0, 0), 1);
        due("they don't", x.rests(0, 2, 0), 2);
        due("nor the other way", x.rests(2, 0, 0), 2);
    }

    @Says("-2: one hasn't it")
    static void promise24_oneHasntIt() {
        SecondTelling x = of(THREE, 1);
        due("the second one", x.rests(0, 2, 0), -2);
        due("the first one", x.rests(2, 0, 0), -2);
    }

    @Says("NONE: no such ones, alike")
    static void promise24_noSuchOnes() {
        SecondTelling x = of(THREE, 1);
        due("alike", x.rests(0, 0, 0), -1);
        due("alike, who hasn't it", x.rests(2, 2, 0), -1);
        due("man 3", x.rests(3, 0, 0), -1);
        due("other 3", x.rests(0, 3, 0), -1);
        due("thing 1", x.rests(0, 1, 1), -1);
        for (int none : NO_NUMBERS) {
            due("man " + none, x.rests(none, 0, 0), -1);
            due("other " + none, x.rests(0, none, 0), -1);
            due("thing " + none, x.rests(0, 1, none), -1);
        }
    }

    @Says("if their TELLINGS would FIT (as in PAIRS)")
    static void promise24_theGreaterNumberIsTheLaterOne() {
        SecondTelling x = of("man a 1;man b 2;thing t 0 9;sees a t;sees b t;law fits bent=2;", 1);
        due("b is the later one", x.rests(0, 1, 0), 1);
        due("whoever is the first", x.rests(1, 0, 0), 1);
    }

    @Says("-2: there are no so many, one hasn't it")
    static void promise25_thereAreNotSoMany() {
        SecondTelling x = of(THREE, 1);
        x.hear(2, 0, 0);
        due("they fit: both tell", x.rest(0, 1, 0, 0), 0);
        due("no second", x.rest(0, 1, 0, 1), -2);
        due("they don't: the second one waits", x.rest(0, 2, 0, 0), 1);
        due("the first one waits", x.rest(0, 2, 0, 1), 10);
        due("no third", x.rest(0, 2, 0, 2), -2);
        due("none so far", x.rest(0, 2, 0, Integer.MAX_VALUE), -2);
    }

    @Says("-2: there are no so many, one hasn't it")
    static void promise25_oneHasntIt() {
        SecondTelling x = of(THREE, 1);
        due("the second one", x.rest(0, 2, 0, 0), -2);
        due("the first one", x.rest(2, 0, 0, 0), -2);
    }

    @Says("k is below 0")
    static void promise25_kIsBelow0() {
        SecondTelling x = of(THREE, 1);
        due("-1", x.rest(0, 1, 0, -1), -1);
        due("far below", x.rest(0, 1, 0, Integer.MIN_VALUE), -1);
        due("-1, one hasn't it", x.rest(0, 2, 0, -1), -1);
    }

    @Says("NONE: no such ones, alike")
    static void promise25_noSuchOnes() {
        SecondTelling x = of(THREE, 1);
        due("alike", x.rest(0, 0, 0, 0), -1);
        due("man 3", x.rest(3, 0, 0, 0), -1);
        due("other 3", x.rest(0, 3, 0, 0), -1);
        due("thing 1", x.rest(0, 1, 1, 0), -1);
        for (int none : NO_NUMBERS) {
            due("man " + none, x.rest(none, 0, 0, 0), -1);
            due("other " + none, x.rest(0, none, 0, 0), -1);
            due("thing " + none, x.rest(0, 1, none, 0), -1);
        }
    }

    // ---------------------------------------------------------------- 26

    @Says("SILENT (n 0 .. 6)")
    static void promise26_ofNoneAndOfSix() {
        SecondTelling x = of("talk 1;");
        due("none, above", x.silent(0, 0), 1);
        due("none, below", x.silent(0, 1), 1);
        due("six, above", x.silent(6, 0), 941480149401L);
        due("six, below", x.silent(6, 1), 1000000000000L);
    }

    @Says("in least terms")
    static void promise26_inLeastTerms() {
        SecondTelling x = of("talk 50;");
        due("a half, above", x.silent(6, 0), 1);
        due("a half, below", x.silent(6, 1), 64);
        SecondTelling y = of("talk 40;");
        due("three fifths, above", y.silent(2, 0), 9);
        due("three fifths, below", y.silent(2, 1), 25);
        SecondTelling z = of("talk 96;");
        due("a twenty-fifth, above", z.silent(1, 0), 1);
        due("a twenty-fifth, below", z.silent(1, 1), 25);
    }

    @Says("in least terms")
    static void promise26_inLeastTermsForEachTalk() {
        for (int talk = 0; talk <= 100; talk++) {
            SecondTelling x = of("talk " + talk + ";");
            for (int n = 0; n <= 6; n++) {
                BigInteger above = BigInteger.valueOf(100 - talk).pow(n);
                BigInteger below = BigInteger.valueOf(100).pow(n);
                BigInteger both = above.gcd(below);
                due("talk " + talk + ", " + n + ", above", x.silent(n, 0), above.divide(both).longValueExact());
                due("talk " + talk + ", " + n + ", below", x.silent(n, 1), below.divide(both).longValueExact());
            }
        }
    }

    @Says("in least terms")
    static void promise26_neverAndAlways() {
        SecondTelling never = of("talk 100;");
        due("never, above", never.silent(1, 0), 0);
        due("never, below", never.silent(1, 1), 1);
        due("but none are", never.silent(0, 0), 1);
        SecondTelling always = of("talk 0;");
        due("always, above", always.silent(6, 0), 1);
        due("always, below", always.silent(6, 1), 1);
    }

    @Says("talk: of a hundred 0 .. 100 (100)")
    static void promise26_theyTalkWithoutTalk() {
        due("of a new one", new SecondTelling().silent(1, 0), 0);
        due("of a new one, below", new SecondTelling().silent(6, 1), 1);
        SecondTelling x = of("talk 3;");
        x.text(0);
        due("behind an empty text", x.silent(1, 0), 0);
    }

    @Says("NONE: no such ones")
    static void promise26_noSuchOnes() {
        SecondTelling x = of("talk 1;");
        due("7", x.silent(7, 0), -1);
        due("what 2", x.silent(1, 2), -1);
        for (int none : NO_NUMBERS) {
            due("n " + none, x.silent(none, 0), -1);
            due("what " + none, x.silent(1, none), -1);
        }
    }
}
