/** Promises 1 to 13, and the terms they use, by ordinary inputs: what each sentence says where nothing is at an edge. */
public final class OrdinaryDaysTest extends Check {
    private static final String THREE = "man a 1;man b 2;thing t 3 4;";
    private static final String[] LINES = {
        "man c 5", "thing u 6 7", "sees a t", "way a b 8", "tell a t 9", "near 10", "far 11", "talk 12", "seed 13",
        "law change 14", "law fits 15", "law print 16"};

    /** a and b see t on day 2 as 40, c hears it from a on day 5 as 43: on day 8 they have it for 6, 6, 3 days. */
    private static final String NAMED = "man a 3;man b 5;man c 1;thing t 2 40;sees a t;sees b t;way a c 3;";
    private static final int NAMED_DAY = 8;

    public static void main(String[] args) throws Exception {
        runAll(OrdinaryDaysTest.class, 1, 13);
    }

    // ---------------------------------------------------------------- 1, 2

    @Says("A TEXT without LINES; an empty TAPE.")
    static void promise1_theFirstTextComesBehindNothing() {
        SecondTelling x = new SecondTelling();
        due("the text", load(x, MILL), 19);
        due("people", x.count(0), 4);
    }

    @Says("Twenty bytes come behind the TAPE, four of each number, the highest first: how many it has;")
    static void promise2_twentyBytesBehindThoseOfTheTape() {
        SecondTelling x = new SecondTelling();
        // "man a 1;man b 2;man " and "c 3;man d 4;        "
        due("twenty", x.feed(0x6d616e20, 0x6120313b, 0x6d616e20, 0x6220323b, 0x6d616e20), 20);
        due("forty", x.feed(0x6320333b, 0x6d616e20, 0x6420343b, 0x20202020, 0x20202020), 40);
        due("lines", x.text(40), 4);
        for (int man = 0; man < 4; man++) {
            due("bent of " + man, x.bent(man), man + 1);
        }
    }

    // ---------------------------------------------------------------- 3

    @Says("A TEXT: { LINE ';' }.")
    static void promise3_linesEachWithItsEnd() {
        fine("near 1;", 1);
        fine("near 1;far 2;", 2);
        fine(MILL, 19);
        faulty("near 1;far 2", 1, 12);
        faulty("near 1 far 2;", 1, 7);
    }

    @Says("LINE: man W N | thing W N N | sees W W | way W W N | tell W W N | near N | far N | talk N | seed N | law RULE E.")
    static void promise3_eachLineHasItsTokensNoLessNoMore() {
        for (String line : LINES) {
            fine(THREE + line + ";", 4);
            faulty(THREE + line + " 1;", 1, (THREE + line + " ").length());
            for (int end = line.lastIndexOf(' '); end > 0; end = line.lastIndexOf(' ', end - 1)) {
                faulty(THREE + line.substring(0, end) + ";", 1, THREE.length() + end);
                faulty(THREE + line.substring(0, end), 1, THREE.length() + end);
            }
        }
    }

    @Says("RULE: change | fits | print.")
    static void promise3_threeRules() {
        fine("law change 1;law fits 2;law print 3;", 3);
        fine("law print 1;law change 2;law fits 3;", 3);
        for (String none : new String[] {"hats", "day", "near", "a", "changes", "1", "(", "law"}) {
            faulty("law " + none + " 1;", 1, 4);
        }
    }

    @Says("Words: small letters in a row;")
    static void promise3_wordsAreSmallLettersInARow() {
        fine("man ab 1;", 1);
        faulty("Man ab 1;", 1, 0);
        faulty("man aB 1;", 1, 5);
        faulty("ma n ab 1;", 1, 0);
        faulty("manab 1;", 1, 0);
        faulty("man a b 1;", 1, 6);
        faulty("man a_b 1;", 1, 5);
        faulty("man a-b 1;", 1, 5);
    }

    @Says("sees, at most 10: a PERSON a THING.")
    static void promise3_seesAPersonAThing() {
        SecondTelling x = of("man a 1;man b 1;thing a 0 7;thing b 1 8;sees a b;sees b a;", 2);
        due("who has a", x.thing(0, 3), 2);
        due("who has b", x.thing(1, 3), 1);
    }

    @Says("The TAPE's first n bytes (it is empty then) are the TEXT (DAY 0, nobody HAS anything, nothing PRINTED, SEEN,"
            + " all KNOWN, no IMAGE, nothing to undo then): how many LINES;")
    static void promise3_anotherTextInPlaceOfOne() {
        SecondTelling x = of(MILL, 10);
        x.see(3, 1, 0, 20, true);
        x.known(0);
        x.keep();
        x.forget(0, 0);
        due("the other text", load(x, NAMED), 7);
        due("state", stateOf(x), stateOf(of(NAMED)));
        due("image", x.back(), -1);
        due("seen", x.see(3, 1, 0, 40, true), 0);
        due("known", x.count(12), 1);
    }

    // ---------------------------------------------------------------- 4, 5

    @Says("FAULTS, the first along the text (of one place the least), with its place:")
    static void promise4_theFirstAlongTheText() {
        faulty("man a 10;man a 11;", 2, 6);
        faulty("man a 1;way a a 0;", 5, 14);
        faulty("man a 1;sees b t;man c 10;", 4, 13);
        faulty("near 1;near 100", 3, 7);
        faulty("man a 1;?", 1, 8);
    }

    @Says("2 too much (at it): a number beyond what is said, an eighth man and so on (at the word of the LINE), a ninth '(' open,")
    static void promise4_tooMuchAtIt() {
        faulty("thing t  100 1;", 2, 9);
        faulty("near 1;talk   101;", 2, 14);
        faulty(SEVEN + " man h 1;", 2, SEVEN.length() + 1);
        faulty(SIX + " thing h 1 1;", 2, SIX.length() + 1);
        faulty("law fits ((((((((  (1", 2, 19);
    }

    @Says("Of the latest text() that was not -2, what 0: its FAULT (0), 1: its place (NONE without).")
    static void promise4_theLatestTextsFault() {
        SecondTelling x = new SecondTelling();
        load(x, "man a 1;way a a 1;");
        due("fault", x.fault(0), 5);
        due("place", x.fault(1), 14);
        load(x, "man a 1;sees a b;");
        due("the next one's fault", x.fault(0), 4);
        due("the next one's place", x.fault(1), 15);
        load(x, MILL);
        due("none", x.fault(0), 0);
        due("no place", x.fault(1), -1);
    }

    @Says("All numbered as they come; PEOPLE, THINGS have names of their kind.")
    static void promise5_numberedAsTheyCome() {
        SecondTelling x = of("man zoe 1;thing amy 0 5;man bob 2;thing zoe 1 6;man amy 3;");
        due("zoe", x.named(0, letters("zoe")), 0);
        due("bob", x.named(0, letters("bob")), 1);
        due("amy", x.named(0, letters("amy")), 2);
        due("the thing amy", x.named(1, letters("amy")), 0);
        due("the thing zoe", x.named(1, letters("zoe")), 1);
        due("no thing bob", x.named(1, letters("bob")), -1);
    }

    @Says("The number of a PERSON (what 0), a THING (1) by its letters, 5 bits each (a is 1;")
    static void promise5_byItsLetters() {
        SecondTelling x = of(MILL);
        // b 2, e 5, a 1 and m 13, i 9, l 12, l 12
        due("bea", x.named(0, 2 << 25 | 5 << 20 | 1 << 15), 1);
        due("mill", x.named(1, 13 << 25 | 9 << 20 | 12 << 15 | 12 << 10), 0);
        due("no man mill", x.named(0, 13 << 25 | 9 << 20 | 12 << 15 | 12 << 10), -1);
    }

    // ---------------------------------------------------------------- 6 to 8

    @Says("Of a THING now, what 0 its DAY, 1 HATS, 2 the DAY on which it was NEWS (-2: it isn't), 3 PEOPLE (bits) who HAVE it,")
    static void promise6_ofAThingNow() {
        SecondTelling x = of(MILL, 5);
        int[][] due = {{1, 20, 4, 15, 12}, {3, 60, -2, 14, 0}};
        for (int what = 0; what <= 4; what++) {
            due("mill, what " + what, x.thing(0, what), due[0][what]);
            due("well, what " + what, x.thing(1, what), due[1][what]);
        }
        x.go(5);
        due("well is news", x.thing(1, 2), 9);
        due("who has the well", x.thing(1, 3), 15);
        due("who told of the well", x.thing(1, 4), 13);
    }

    @Says("A PERSON HAS a THING, or not: as so many HATS, SINCE a DAY, FROM another PERSON, or by sight.")
    static void promise7_hatsSinceFrom() {
        SecondTelling x = of(MILL, 5);
        rowOf(x, 0, 0, 20, 1, -2, 1, -2);
        rowOf(x, 1, 0, 20, 1, -2, 2, -2);
        rowOf(x, 1, 1, 67, 4, 2, 6, -2);
        rowOf(x, 0, 1, -2, -2, -2, -2, -2);
    }

    @Says("Of a PERSON and a THING now, what 0 as how many HATS, 1 SINCE which DAY, 2 FROM whom (-2: by sight),")
    static void promise7_ofAPersonAndAThingNow() {
        SecondTelling x = of(MILL, 5);
        rowOf(x, 2, 0, 21, 3, 0, 5, 21);
        rowOf(x, 3, 0, 24, 2, 1, 10, 24);
        x.go(5);
        rowOf(x, 0, 1, 62, 6, 3, 9, 62);
    }

    private static void rowOf(SecondTelling x, int man, int thing, int... row) {
        for (int what = 0; what < row.length; what++) {
            due("man " + man + ", thing " + thing + ", what " + what, x.has(man, thing, what), row[what]);
        }
    }

    @Says("The CHAIN of one and a THING: he, who he has it FROM, who that one has it FROM and so on,")
    static void promise7_oneFromAnotherAndSoOn() {
        SecondTelling x = of(SEVEN + "thing t 0 1;sees c t;way c a 1;way a g 1;way g d 1;way d b 1;", 5);
        int[] chains = {5, 79, 4, 77, -2, -2, 69};
        for (int man = 0; man < 7; man++) {
            due("chain of " + man, x.has(man, 0, 3), chains[man]);
        }
    }

    @Says("BENT of a PERSON; NONE: no such PERSON.")
    static void promise8_bentOfEach() {
        SecondTelling x = of(MILL);
        int[] bents = {1, 4, 7, 2, -1};
        for (int man = 0; man < bents.length; man++) {
            due("bent of " + man, x.bent(man), bents[man]);
        }
    }

    // ---------------------------------------------------------------- 9

    private static void value(String e, long want) {
        SecondTelling x = of("man a 3;thing t 0 7;sees a t;law change " + e + ";", 1);
        due(e, x.law(0, 0, 0, 0), want);
    }

    @Says("E: A { or A }. A: B { and B }. B: not B | C.")
    static void promise9_orAndNot() {
        value("1 or 1 and 0", 1);
        value("0 and 1 or 1", 1);
        value("0 and (1 or 1)", 0);
        value("0 or 0 or 3", 1);
        value("1 and 2 and 3", 1);
        value("1 and 2 and 0", 0);
        value("not 1 and 0", 0);
        value("not (1 and 0)", 1);
        value("not 0 or 1", 1);
        value("not not not 4", 0);
    }

    @Says("C: S [ ( < | <= | = | <> | >= | > ) S ]. S: T { ( + | - ) T }. T: P { ( * | / ) P }.")
    static void promise9_signsByTheirRank() {
        value("not 2<1", 1);
        value("not 0+1", 0);
        value("1<2+3", 1);
        value("2+3<=1*4", 0);
        value("2*3=3+3", 1);
        value("4<>2+2", 0);
        value("9-1>=16/2", 1);
        value("1+1>1*1", 1);
        value("8-4-2", 2);
        value("8-4+2", 6);
        value("2+3*4", 14);
        value("24/4/2", 3);
        value("24/4*2", 12);
        value("7/2*2", 6);
        value("1<2 and 3<2", 0);
    }

    @Says("P: N | NAME | '(' E ')';")
    static void promise9_partsOfE() {
        value("42", 42);
        value("hats", 7);
        value("(42)", 42);
        value("((hats))", 7);
        value("2*(hats+bent)", 20);
        value("(1 or 0)+(2>1)+(not 5)", 2);
    }

    @Says("NAME: hats bent old apart many told day.")
    static void promise9_sevenNames() {
        SecondTelling x = of("law fits hats+bent+old+apart+many+told+day;");
        due("knots", x.count(4), 13);
        for (String name : new String[] {"hats", "bent", "old", "apart", "many", "told", "day"}) {
            fine("law print " + name + ";", 1);
        }
        for (String none : new String[] {"near", "far", "talk", "seed", "change", "fits", "hat", "man", "thing"}) {
            faulty("law print " + none + ";", 1, 10);
        }
    }

    private static long named(String law, String name, int what, int one, int other) {
        return of(NAMED + "law " + law + " " + name + ";", NAMED_DAY).law(what, 0, one, other);
    }

    @Says("NAMES: hats: HATS (of change the teller's, of fits, print the later TELLING's);")
    static void promise9_hatsOfWhom() {
        due("change by a", named("change", "hats", 0, 0, 2), 40);
        due("fits, c later", named("fits", "hats", 1, 0, 2), 43);
        due("fits, a later", named("fits", "hats", 1, 2, 0), 40);
        due("print, c later", named("print", "hats", 2, 0, 2), 43);
        due("print, a later", named("print", "hats", 2, 2, 0), 40);
    }

    @Says("bent: BENT of who tells (of fits, print the later one); old: for how many DAYS he HAS it;")
    static void promise9_bentAndOldOfWhom() {
        due("change, bent of b", named("change", "bent", 0, 1, 0), 5);
        due("fits, bent of c", named("fits", "bent", 1, 0, 2), 1);
        due("fits, bent of a", named("fits", "bent", 1, 2, 0), 3);
        due("print, bent of b", named("print", "bent", 2, 2, 1), 5);
        due("change, old of a", named("change", "old", 0, 0, 0), 6);
        due("change, old of c", named("change", "old", 0, 2, 0), 3);
        due("fits, old of c", named("fits", "old", 1, 1, 2), 3);
        due("print, old of b", named("print", "old", 2, 2, 1), 6);
    }

    @Says("apart: APART (of change 0; of print of the two, the first PRINTED one by PEOPLE that FITS);"
            + " many: how many HAVE the THING then; told: how many TELLINGS of it are PRINTED (ahead of this one); day: the DAY.")
    static void promise9_whatIsOfNobody() {
        due("change, apart", named("change", "apart", 0, 0, 2), 0);
        due("fits, apart", named("fits", "apart", 1, 0, 2), 3);
        due("print, apart", named("print", "apart", 2, 2, 0), 3);
        due("fits, apart of two alike", named("fits", "apart", 1, 0, 1), 0);
        String[] laws = {"change", "fits", "print"};
        for (int what = 0; what < laws.length; what++) {
            due(laws[what] + ", many", named(laws[what], "many", what, 0, 1), 3);
            due(laws[what] + ", told", named(laws[what], "told", what, 0, 1), 0);
            due(laws[what] + ", day", named(laws[what], "day", what, 0, 1), NAMED_DAY);
        }
        SecondTelling x = of(NAMED + "law fits many*100+told*10+day;", NAMED_DAY);
        x.tell(1, 0);
        x.tell(2, 0);
        x.forget(1, 0);
        due("two told, two have it", x.law(1, 0, 0, 2), 228);
    }

    @Says("The law's E now of a THING (what 0 change by the first PERSON, the second one isn't looked at; 1 fits, whatever the CHAINS,"
            + " 2 print of the TELLINGS both would make now, APART from one another, the second one's the later one).")
    static void promise9_eachLawsOwnE() {
        SecondTelling x = of(NAMED + "law change hats+9;law fits apart*10+bent;law print apart*100+old;", NAMED_DAY);
        // c has it as 49 by this law
        due("change by a", x.law(0, 0, 0, 1), 49);
        due("change by c", x.law(0, 0, 2, 1), 58);
        due("fits, c later", x.law(1, 0, 0, 2), 91);
        due("fits, a later", x.law(1, 0, 2, 0), 93);
        due("print, c later", x.law(2, 0, 0, 2), 903);
        due("print, a later", x.law(2, 0, 2, 0), 906);
        due("nothing is changed by this", stateOf(x), stateOf(of(NAMED + "law change hats+9;law fits apart*10+bent;"
                + "law print apart*100+old;", NAMED_DAY)));
    }

    // ---------------------------------------------------------------- 10 to 12

    @Says("A PERSON hears a THING now FROM another one who HAS it (as in (2), SINCE now, whatever the WAYS, DAYS, talk): as how many HATS;")
    static void promise10_hearsItNow() {
        SecondTelling x = of(MILL, 2);
        due("dot hears it from al", x.hear(3, 0, 0), 21);
        rowOf(x, 3, 0, 21, 2, 0, 9, -2);
        due("cal from dot", x.hear(2, 3, 0), 23);
        rowOf(x, 2, 0, 23, 2, 3, 13, -2);
        x.go(1);
        due("no way gives it to dot any more", x.has(3, 0, 2), 0);
    }

    @Says("A PERSON tells a THING at the office now (as in (3)): 1: it is NEWS by this, 0: it isn't;")
    static void promise11_tellsItNow() {
        SecondTelling x = of(MILL, 3);
        due("al is the first one", x.tell(0, 0), 0);
        due("bea has it as he has", x.tell(1, 0), 0);
        due("dot's fits al's", x.tell(3, 0), 1);
        due("on this day", x.thing(0, 2), 3);
        due("space", x.count(9), 1);
        due("printed", x.thing(0, 4), 11);
    }

    @Says("A TELLING is PRINTED at the office with HATS and CHAIN as they are then, one of each PERSON and THING at most.")
    static void promise11_asTheyAreThen() {
        SecondTelling x = of("man a 1;man b 2;man c 3;thing t 0 50;sees a t;sees b t;", 1);
        x.hear(2, 0, 0);
        x.tell(2, 0);
        x.forget(2, 0);
        x.hear(2, 1, 0);
        due("hats then", x.has(2, 0, 4), 51);
        due("hats now", x.has(2, 0, 0), 52);
        due("not twice", x.tell(2, 0), -2);
        due("one", x.count(8), 1);
        due("a is of its chain then", x.tell(0, 0), 0);
        due("b isn't", x.tell(1, 0), 1);
    }

    @Says("Two TELLINGS of a THING FIT (a PRINTED one by its HATS and CHAIN then, another one by those of now), if their CHAINS have"
            + " nobody in common and E of fits isn't 0 (without, with an ERROR: APART, that is how far their HATS are from one another, is from near to far).")
    static void promise11_chainsAndFits() {
        String[] laws = {"", "law fits 1;", "law fits 0;", "law fits 1/0;", "law fits apart=3;", "law fits apart-3;"};
        int[] ofAAndC = {0, 0, 0, 0, 0, 0};
        int[] ofBAndC = {1, 1, 0, 1, 1, 0};
        for (int i = 0; i < laws.length; i++) {
            SecondTelling x = of(NAMED + laws[i], NAMED_DAY);
            x.tell(0, 0);
            due("a, c " + laws[i], x.tell(2, 0), ofAAndC[i]);
            SecondTelling y = of(NAMED + laws[i], NAMED_DAY);
            y.tell(1, 0);
            due("b, c " + laws[i], y.tell(2, 0), ofBAndC[i]);
        }
    }

    @Says("A PERSON forgets a THING (what is PRINTED stays, who has it FROM him has it so on): true; false: no such ones, he hasn't it.")
    static void promise12_forgetsIt() {
        SecondTelling x = of(MILL, 5);
        due("cal forgets the mill", x.forget(2, 0), true);
        rowOf(x, 2, 0, -2, -2, -2, -2, 21);
        due("who has it", x.thing(0, 3), 11);
        due("who told it", x.thing(0, 4), 12);
        due("the well he still has", x.has(2, 1, 0), 60);
        due("he forgets that, too", x.forget(2, 1), true);
        rowOf(x, 1, 1, 67, 4, 2, 6, -2);
        due("not again", x.forget(2, 1), false);
        x.go(1);
        due("he hears the well again from nobody", x.has(2, 1, 0), -2);
        due("but the mill from al", x.has(2, 0, 1), 5);
    }

    // ---------------------------------------------------------------- 13

    @Says("So many DAYS (0 .. 200) go by: which one it is;")
    static void promise13_whichDayItIs() {
        SecondTelling x = of(MILL);
        due("none", x.go(0), 0);
        due("three", x.go(3), 3);
        due("seven more", x.go(7), 10);
        due("the day", x.count(5), 10);
        SecondTelling y = of(MILL);
        for (int day = 1; day <= 10; day++) {
            due("one by one", y.go(1), day);
        }
        due("all is alike", stateOf(x), stateOf(y));
    }

    @Says("A DAY: (1) THINGS of this DAY (on this DAY alone) by numbers: each by PEOPLE who sees it and hasn't got it HAS it by sight,"
            + " as its HATS, SINCE this DAY. (2)")
    static void promise13_seenOnItsDay() {
        SecondTelling x = of("man a 1;man b 2;thing t 1 30;thing u 2 31;sees b t;sees a u;sees b u;", 1);
        due("nobody yet", x.count(7), 0);
        x.go(1);
        rowOf(x, 1, 0, 30, 1, -2, 2, -2);
        due("a doesn't see t", x.has(0, 0, 0), -2);
        due("u isn't yet", x.thing(1, 3), 0);
        x.go(1);
        rowOf(x, 0, 1, 31, 2, -2, 1, -2);
        rowOf(x, 1, 1, 31, 2, -2, 2, -2);
        x.forget(1, 1);
        x.go(3);
        due("not seen again", x.thing(1, 3), 1);
    }

    @Says("by numbers each WAY, for each THING by numbers: if who tells HAS it SINCE so many DAYS at least (the DAY less SINCE)"
            + " and who hears hasn't got it (else no number is drawn): if a number modulo 100 (no number, if talk is 0 or 100) is below talk,")
    static void promise13_eachWayForEachThing() {
        // the numbers of seed 1 modulo 100: 38 58 13 15 51 27 10 19 12 86
        SecondTelling x = of("man a 0;man b 0;man c 0;thing t 0 5;thing u 0 6;sees a t;sees a u;sees c u;"
                + "way a c 1;way a b 1;way c b 2;seed 1;talk 39;", 2);
        // day 1: a to c of t 38; a to b of t 58, of u 13
        due("c has t", x.has(2, 0, 0), 5);
        due("b has no t", x.has(1, 0, 0), -2);
        due("b has u", x.has(1, 1, 0), 6);
        x.go(1);
        // day 2: a to b of t 15; nothing is left for c to b
        due("b has t from a", x.has(1, 0, 2), 0);
        x.forget(1, 0);
        x.forget(2, 0);
        x.go(1);
        // day 3: a to c of t 51; a to b of t 27
        due("c has it no more", x.has(2, 0, 0), -2);
        due("b has it again", x.has(1, 0, 1), 3);
        x.go(1);
        // day 4: a to c of t 10
        due("c has it again", x.has(2, 0, 1), 4);
    }

    @Says("he HAS it FROM who tells, SINCE this DAY, as E of change HATS (0 .. 99;"
            + " the teller's HATS and BENT in sum modulo 100 without, with an ERROR). (3)")
    static void promise13_heardAsWhat() {
        SecondTelling x = of("man a 8;man b 9;man c 1;thing t 0 90;sees a t;way a b 2;way b c 1;", 4);
        rowOf(x, 1, 0, 98, 2, 0, 3, -2);
        rowOf(x, 2, 0, 7, 3, 1, 7, -2);
        SecondTelling y = of("man a 8;man b 9;man c 1;thing t 0 90;sees a t;way a b 2;way b c 1;law change hats/2+bent*old;", 4);
        rowOf(y, 1, 0, 61, 2, 0, 3, -2);
        rowOf(y, 2, 0, 39, 3, 1, 7, -2);
    }

    @Says("TELLS of this DAY by their numbers: if the PERSON HAS the THING and no TELLING of both is PRINTED, it is:"
            + " if it FITS one that was PRINTED ahead of it and the THING isn't NEWS, it is NEWS, on this DAY"
            + " (what is NEWS stays so; more TELLINGS are PRINTED all the same), and SPACE is more by E of print")
    static void promise13_toldOnItsDay() {
        SecondTelling x = of(MILL + "law print bent*10+apart;", 4);
        due("nothing is told", x.count(8), 0);
        x.go(1);
        due("two told of the mill", x.thing(0, 4), 12);
        due("dot's, the later one, is by 3 apart", x.count(9), 23);
        x.go(4);
        due("the well isn't news", x.thing(1, 2), -2);
        x.go(1);
        due("it is by al's, by 2 apart", x.count(9), 23 + 12);
        due("on day 9", x.thing(1, 2), 9);
        due("the mill stays so", x.thing(0, 2), 4);
        SecondTelling y = of("man a 1;man b 2;thing t 0 9;sees a t;sees b t;near 0;law print bent;tell b t 1;tell a t 1;", 2);
        due("a's is the later one by its number", y.count(9), 1);
    }

    @Says("Then it is the next DAY.")
    static void promise13_theNextDay() {
        SecondTelling x = of("man a 1;man b 1;thing t 0 5;sees a t;way a b 1;tell a t 0;tell b t 1;law change day*10;", 1);
        due("the next day", x.count(5), 1);
        due("seen on day 0", x.has(0, 0, 1), 0);
        due("told on day 0", x.has(0, 0, 4), 5);
        x.go(1);
        due("heard on day 1", x.has(1, 0, 1), 1);
        due("by the law of day 1, told on day 1", x.has(1, 0, 4), 10);
    }

    @Says("Numbers are the last one (at first the seed) times 1103515245 and 12345, without what is above 31 bits, by 65536.")
    static void promise13_numbersOfSeedOne() {
        // 16838 5758 10113 17515 31051 5627 23010 7419 16212 4086 are those of seed 1
        int[] talks = {39, 38, 20, 14, 13, 11, 10};
        int[] days = {1, 3, 3, 3, 7, 7, -2};
        for (int i = 0; i < talks.length; i++) {
            SecondTelling x = of("man a 0;man b 0;thing t 0 5;sees a t;way a b 1;seed 1;talk " + talks[i] + ";", 11);
            due("since, by talk " + talks[i], x.has(1, 0, 1), days[i]);
        }
    }
}
