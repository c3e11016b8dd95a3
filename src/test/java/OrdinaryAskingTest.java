/** Promises 14 to 37, and the terms they use, by ordinary inputs: what each sentence says where nothing is at an edge. */
public final class OrdinaryAskingTest extends Check {
    /** b may hear it from a on each day from day 1 on; the numbers of seed 1 modulo 100 are 38 58 13 15 51 27 10 19 12 86. */
    private static final String TALKERS = "man a 3;man b 0;thing t 0 5;sees a t;way a b 1;";

    public static void main(String[] args) throws Exception {
        runAll(OrdinaryAskingTest.class, 14, 37);
    }

    // ---------------------------------------------------------------- 14 to 16

    @Says("AHEAD for n DAYS as it goes: how many THINGS are NEWS then, how many HAVE a THING then, SPACE more, IDLE more.")
    static void promise14_whatComes() {
        SecondTelling x = of(MILL + "tell al well 4;tell dot mill 7;law print 30;");
        String before = stateOf(x);
        int[] news = {0, 0, 0, 0, 0, 1, 1, 1, 1, 1, 2};
        int[] well = {0, 0, 0, 0, 2, 3, 3, 4, 4, 4, 4};
        int[] idle = {0, 0, 0, 0, 0, 1, 1, 1, 2, 2, 2};
        for (int n = 0; n < news.length; n++) {
            due("news behind " + n, x.ahead(n, 0, 0), news[n]);
            due("who has the well behind " + n, x.ahead(n, 1, 1), well[n]);
            due("space behind " + n, x.ahead(n, 2, 0), 30 * news[n]);
            due("idle behind " + n, x.ahead(n, 3, 0), idle[n]);
        }
        due("nothing went by", stateOf(x), before);
        x.go(6);
        due("news then", x.ahead(4, 0, 0), 2);
        due("space more", x.ahead(4, 2, 0), 30);
        due("idle more", x.ahead(4, 3, 0), 1);
    }

    @Says("AS IT GOES: without numbers: they talk, if talk is 50 at least.")
    static void promise14_withoutNumbers() {
        // 58, the second number of seed 1, is drawn on day 2
        SecondTelling x = of(TALKERS + "seed 1;talk 50;", 2);
        due("38 is below 50", x.has(1, 0, 0), 8);
        x.forget(1, 0);
        due("as it goes he hears it again", x.ahead(1, 1, 0), 2);
        due("by numbers he doesn't", x.go(1), 3);
        due("hats", x.has(1, 0, 0), -2);
        SecondTelling y = of(TALKERS + "seed 1;talk 49;", 1);
        due("as it goes he doesn't hear it", y.ahead(99, 1, 0), 1);
        due("by numbers he does", y.go(1), 2);
        due("hats, then", y.has(1, 0, 0), 8);
    }

    @Says("WHEN; -2: not by then; NONE: no such THING.")
    static void promise15_inHowManyDays() {
        SecondTelling x = of(MILL);
        due("the mill", x.when(0), 5);
        due("the well", x.when(1), 10);
        x.go(3);
        due("the mill, from day 3 on", x.when(0), 2);
        x.forget(3, 0);
        due("dot hears it from bea again", x.when(0), 2);
        x.forget(1, 0);
        due("nobody else tells dot", x.when(0), -2);
    }

    @Says("HEARS; -2: not by then; NONE: no such ones.")
    static void promise16_inHowManyDays() {
        SecondTelling x = of(MILL);
        int[] mill = {2, 2, 4, 3};
        int[] well = {7, 5, 4, 4};
        for (int man = 0; man < 4; man++) {
            due("the mill, man " + man, x.hears(man, 0), mill[man]);
            due("the well, man " + man, x.hears(man, 1), well[man]);
        }
        x.go(3);
        due("cal from day 3 on", x.hears(2, 0), 1);
        x.forget(0, 0);
        due("al has to hear it from dot on day 5 first, cal from him on day 7", x.hears(2, 0), 5);
        x.forget(3, 0);
        x.forget(1, 0);
        due("nobody has it to tell him", x.hears(2, 0), -2);
    }

    // ---------------------------------------------------------------- 17 to 22

    @Says("JOINED: two who HAVE a THING whose CHAINS have one in common.")
    static void promise17_whoIsJoined() {
        SecondTelling x = of(MILL, 5);
        int[][] mill = {{-1, 0, 1, 0}, {0, -1, 0, 1}, {1, 0, -1, 0}, {0, 1, 0, -1}};
        int[][] well = {{-1, -2, -2, -2}, {-2, -1, 1, 0}, {-2, 1, -1, 0}, {-2, 0, 0, -1}};
        for (int one = 0; one < 4; one++) {
            for (int other = 0; other < 4; other++) {
                due("the mill, " + one + " and " + other, x.joined(one, other, 0), mill[one][other]);
                due("the well, " + one + " and " + other, x.joined(one, other, 1), well[one][other]);
            }
        }
    }

    @Says("JOINED (1, 0); -2: one hasn't it; NONE: no such ones, alike.")
    static void promise17_byAThirdOne() {
        SecondTelling x = of("man a 1;man b 1;man c 1;man d 1;thing t 0 1;sees a t;sees d t;way a b 1;way a c 1;", 2);
        due("b and c by a", x.joined(1, 2, 0), 1);
        due("b and d", x.joined(1, 3, 0), 0);
        x.forget(0, 0);
        due("a has it no more, yet joins them", x.joined(2, 1, 0), 1);
    }

    @Says("PAIRS of a THING: how many pairs of PEOPLE who HAVE it there are whose TELLINGS would FIT now (by HATS and CHAINS of now,"
            + " the one of the greater number as the later one, bent, old his; nothing PRINTED looked at but for told).")
    static void promise18_pairsThatWouldFit() {
        SecondTelling x = of(MILL, 5);
        due("the mill: al and dot, bea and cal, cal and dot", x.pairs(0), 3);
        due("the well: bea and dot", x.pairs(1), 1);
        due("by far 3", of(MILL + "far 3;", 5).pairs(0), 2);
        due("by near 0", of(MILL + "near 0;", 5).pairs(0), 4);
        due("the later one's bent", of(MILL + "law fits bent=7;", 5).pairs(0), 1);
        due("the later one's days", of(MILL + "law fits old=2;", 5).pairs(0), 1);
    }

    @Says("PAIRS; NONE: no such THING.")
    static void promise18_nobodyNoPairs() {
        SecondTelling x = of(MILL);
        due("nobody has the mill", x.pairs(0), 0);
        x.go(2);
        due("al and bea have it alike", x.pairs(0), 0);
    }

    @Says("REACH of a PERSON: PEOPLE (bits) to whom WAYS (whatever talk) lead from him, one behind another, he as well.")
    static void promise19_whomHeReaches() {
        SecondTelling x = of(SEVEN + "way a c 1;way c e 9;way e c 1;way b e 2;way g f 3;talk 10;");
        int[] reach = {21, 22, 20, 8, 20, 32, 96};
        for (int man = 0; man < 7; man++) {
            due("reach of " + man, x.reach(man), reach[man]);
        }
    }

    @Says("REACH (bits); NONE: no such PERSON.")
    static void promise19_allRoundTheMill() {
        SecondTelling x = of(MILL);
        for (int man = 0; man < 4; man++) {
            due("reach of " + man, x.reach(man), 15);
        }
        due("nobody else", x.reach(4), -1);
    }

    @Says("HUSH of a THING: the fewest PEOPLE (bits, of several the least) such that, if nothing goes by WAYS from them (they hear)"
            + " and their TELLS aren't (nor IDLE), it isn't NEWS till 60 DAYS from now as it goes.")
    static void promise20_whomToHush() {
        SecondTelling x = of(MILL);
        due("cal hears the mill from al alone", x.hush(0), 1);
        due("the well needs al's telling", x.hush(1), 1);
        x.go(4);
        due("cal has it now: he must not tell", x.hush(0), 4);
        String three = "man a 0;man b 0;man c 0;man d 9;thing t 0 9;sees a t;sees b t;sees c t;near 0;";
        due("two of three", of(three + "tell a t 1;tell b t 2;tell c t 3;").hush(0), 3);
        due("d hears nothing, b doesn't tell", of(three + "way a d 1;tell d t 2;tell b t 2;tell c t 3;").hush(0), 3);
    }

    @Says("HUSH (bits; 0: it isn't NEWS then as it is); -2: it is NEWS already; NONE: no such THING.")
    static void promise20_nobodyToHush() {
        SecondTelling x = of(MILL + "far 0;");
        due("the mill", x.hush(0), 0);
        due("the well", x.hush(1), 0);
        due("by ways that talk never", of(MILL + "talk 49;").hush(0), 0);
    }

    @Says("SPREAD: the fewest PEOPLE (bits, of several the least) such that REACHES of these are all PEOPLE (0 of no PEOPLE).")
    static void promise21_fromWhomAllCanHear() {
        due("the mill's", of(MILL).spread(), 1);
        due("a, b, d and g", of(SEVEN + "way a c 1;way c e 9;way e c 1;way b e 2;way g f 3;").spread(), 75);
        due("one of a ring and d", of("man a 1;man b 1;man c 1;man d 1;way c b 1;way b a 1;way a c 1;").spread(), 9);
    }

    @Says("SPREAD (bits).")
    static void promise21_theLastOneReachesAll() {
        due("d", of("man a 1;man b 1;man c 1;man d 1;way d c 1;way c b 1;way b a 1;").spread(), 8);
    }

    @Says("THINGS (bits) that only one PERSON HAS.")
    static void promise22_whatOneAloneHas() {
        SecondTelling x = of(MILL, 4);
        due("both are had by more", x.lone(), 0);
        x.forget(2, 1);
        due("the well is dot's", x.lone(), 2);
        x.forget(0, 0);
        x.forget(1, 0);
        x.forget(2, 0);
        due("the mill is, too", x.lone(), 3);
        x.forget(3, 1);
        due("the well is nobody's", x.lone(), 1);
    }

    // ---------------------------------------------------------------- 23 to 26

    @Says("MATCH: for each THING that isn't NEWS a PERSON, or none, none for two, who HAS it, of whom no TELLING of it is PRINTED"
            + " and with whom it would be NEWS if he told it now (each by itself, as it is now), so that as many THINGS as may be have one,")
    static void promise23_whoWouldMakeItNews() {
        SecondTelling x = of(MILL, 5);
        due("nothing is told of the well", x.match(6), 0);
        x.go(1);
        due("bea's 67 would fit dot's 60", x.match(1), 1);
        due("the mill is news", x.match(0), -2);
        x.go(1);
        due("al's 62 would fit cal's 60", x.match(1), 0);
        due("one thing", x.match(6), 1);
        due("he tells it", x.tell(0, 1), 1);
        due("it is news", x.match(6), 0);
    }

    @Says("MATCH, what 0 .. 5: the PERSON for that THING (-2: none, there are not so many), 6: how many THINGS have one.")
    static void promise23_nobodyForTwo() {
        // all of a, b, c would fit for t, a alone for u, a and b for v
        SecondTelling x = of("man a 0;man b 0;man c 0;man d 0;thing t 0 9;thing u 0 9;thing v 0 9;near 0;sees a t;sees b t;sees c t;"
                + "sees d t;sees a u;sees d u;sees a v;sees b v;sees d v;tell d t 0;tell d u 0;tell d v 0;", 1);
        due("three things", x.match(6), 3);
        due("t has c", x.match(0), 2);
        due("u has a", x.match(1), 0);
        due("v has b", x.match(2), 1);
        due("nothing more", x.match(3), -2);
        x.forget(2, 0);
        due("two of three", x.match(6), 2);
        due("t has a", x.match(0), 0);
        due("u has none", x.match(1), -2);
        due("v has b still", x.match(2), 1);
    }

    @Says("GAME of two PEOPLE and a THING both HAVE: each tells (0) or waits (1): both tell: each has 3,"
            + " if their TELLINGS would FIT (as in PAIRS), else 0; one tells alone: it has 1, the other one 2; both wait: 0 each."
            + " A REST: neither would have more otherwise. RESTS: by the first one's, then the second one's.")
    static void promise24_bothTellOrOneDoes() {
        SecondTelling x = of(MILL, 5);
        due("bea and dot fit of the well", x.rests(1, 3, 1), 1);
        due("both tell", x.rest(1, 3, 1, 0), 0);
        due("cal and dot don't", x.rests(2, 3, 1), 2);
        due("cal tells, dot waits", x.rest(2, 3, 1, 0), 1);
        due("cal waits, dot tells", x.rest(2, 3, 1, 1), 10);
        due("bea and cal are joined", x.rests(1, 2, 1), 2);
    }

    private static int gain(int mine, int others, boolean fit) {
        int[][] gains = {{fit ? 3 : 0, 1}, {2, 0}};
        return gains[mine][others];
    }

    @Says("How many RESTS the GAME has; -2: one hasn't it; NONE: no such ones, alike.")
    static void promise24_restsOfAllPairs() {
        SecondTelling x = of(MILL, 5);
        for (int one = 0; one < 4; one++) {
            for (int other = 0; other < 4; other++) {
                boolean fit = one + other == 3 && one != other || one * other == 6;
                int found = 0;
                for (int play = 0; play < 4 && one != other; play++) {
                    int mine = play / 2;
                    int his = play % 2;
                    if (gain(mine, his, fit) >= gain(1 - mine, his, fit) && gain(his, mine, fit) >= gain(1 - his, mine, fit)) {
                        due("rest " + found + " of " + one + ", " + other, x.rest(one, other, 0, found), 10 * mine + his);
                        found++;
                    }
                }
                due("rests of " + one + ", " + other, x.rests(one, other, 0), one == other ? -1 : found);
            }
        }
    }

    @Says("The k-th: ten times the first one's and the second one's; -2: there are no so many,")
    static void promise25_theKth() {
        SecondTelling x = of(MILL, 5);
        due("the first, al and bea", x.rest(0, 1, 0, 0), 1);
        due("the second", x.rest(0, 1, 0, 1), 10);
        due("no third", x.rest(0, 1, 0, 2), -2);
        due("the first, al and dot", x.rest(0, 3, 0, 0), 0);
        due("no second", x.rest(0, 3, 0, 1), -2);
    }

    @Says("SILENT for n: how likely n who may talk one by one all don't, as a fraction.")
    static void promise26_nobodyTalks() {
        long[][] due = {{1, 1}, {1, 4}, {1, 16}, {1, 64}, {1, 256}, {1, 1024}, {1, 4096}};
        SecondTelling x = of("talk 75;");
        for (int n = 0; n <= 6; n++) {
            due("above, n " + n, x.silent(n, 0), due[n][0]);
            due("below, n " + n, x.silent(n, 1), due[n][1]);
        }
    }

    @Says("SILENT (n 0 .. 6) in least terms, what 0: the number above, 1: the one below.")
    static void promise26_inLeastTerms() {
        int[] talks = {40, 55, 98, 37, 4};
        long[][] due = {{27, 125}, {729, 8000}, {1, 125000}, {250047, 1000000}, {13824, 15625}};
        for (int i = 0; i < talks.length; i++) {
            SecondTelling x = of("talk " + talks[i] + ";");
            due("above, talk " + talks[i], x.silent(3, 0), due[i][0]);
            due("below, talk " + talks[i], x.silent(3, 1), due[i][1]);
        }
    }

    // ---------------------------------------------------------------- 27 to 31

    @Says("SEEN, at most 24, numbered from 0 on: behind so many DAYS 1 .. 60 (as it goes from the TEXT on, nothing done by call)"
            + " a PERSON HAD a THING as so many HATS 0 .. 99, or it wasn't so (he hadn't it, too).")
    static void promise27_whatWasSeen() {
        int all = 1023;
        SecondTelling x = of(MILL, 7);
        x.forget(3, 0);
        due("dot had the mill as 24 behind 3 days", x.see(3, 3, 0, 24, true), 0);
        due("bea bends by 4", x.bents(1), 1 << 4);
        due("not behind 2", oneSeen(2, 3, 0, 24, true), 0);
        due("it wasn't so behind 2", oneSeen(2, 3, 0, 24, false), all);
        due("not as 25: by all but 5", oneSeen(3, 3, 0, 25, false), all - (1 << 5));
        due("as 30: by none", oneSeen(3, 3, 0, 30, true), 0);
        due("cal never had it as 99", oneSeen(60, 2, 0, 99, false), all);
    }

    private static int oneSeen(int days, int man, int thing, int hats, boolean is) {
        SecondTelling x = of(MILL);
        due("its number", x.see(days, man, thing, hats, is), 0);
        return x.bents(1);
    }

    @Says("SEEN: its number; NONE: no such ones, or there are 24.")
    static void promise27_oneBehindAnother() {
        SecondTelling x = of(MILL);
        due("the first", x.see(3, 3, 0, 24, true), 0);
        due("the second", x.see(5, 1, 1, 67, true), 1);
        due("seen", x.count(11), 2);
        due("bea bends by 4", x.bents(1), 16);
        due("cal by 7", x.bents(2), 128);
        due("al as he likes", x.bents(0), 1023);
    }

    @Says("One that strikes one SEEN: its number; NONE: no such one, or there are 24.")
    static void promise28_strikesOne() {
        SecondTelling x = of(MILL);
        x.see(3, 3, 0, 25, true);
        x.see(5, 1, 1, 67, true);
        due("bea would bend by 5", x.bents(1), 32);
        due("cal can't by any", x.bents(2), 0);
        due("a strike", x.strike(0), 2);
        due("bea as she likes", x.bents(1), 1023);
        due("cal by 7", x.bents(2), 128);
    }

    @Says("KNOWN by n (all at first): the first n that aren't STRUCK by one of these"
            + " (what strikes may be STRUCK: then it doesn't count; asked from the last one on).")
    static void promise29_theFirstN() {
        SecondTelling x = of(MILL);
        x.see(3, 3, 0, 26, true);
        x.strike(0);
        x.strike(1);
        x.strike(2);
        x.see(3, 3, 0, 29, false);
        int[] bents = {1023, 64, 1023, 64, 1023, 1023 - 512};
        for (int n = 0; n < bents.length; n++) {
            due("known by " + n, x.known(n), true);
            due("bents by " + n, x.bents(1), bents[n]);
        }
    }

    @Says("KNOWN by n from now on (-1: by all, also those to come): true; false: no such n.")
    static void promise29_fromNowOn() {
        SecondTelling x = of(MILL);
        x.see(3, 3, 0, 24, true);
        due("by one", x.known(1), true);
        x.strike(0);
        due("by one still", x.bents(1), 16);
        due("by all", x.known(-1), true);
        due("struck", x.bents(1), 1023);
        x.strike(1);
        due("those to come, too", x.bents(1), 16);
    }

    @Says("BENTS of a PERSON: 0 .. 9 (bits) in place of his own, by which all KNOWN ones are so.")
    static void promise30_inPlaceOfHisOwn() {
        SecondTelling x = of("man a 0;man b 0;man c 0;thing t 0 5;sees a t;way a b 1;way b c 1;law change hats+bent/3*10;");
        x.see(2, 1, 0, 25, true);
        due("a bends by 6, 7 or 8", x.bents(0), 64 + 128 + 256);
        due("b can't make it so", x.bents(1), 0);
        x.see(3, 2, 0, 35, false);
        due("c has it as b", x.bents(0), 64 + 128 + 256);
        due("his own is as it was", x.bent(0), 0);
        SecondTelling y = of(MILL);
        y.see(4, 2, 0, 20, false);
        y.see(4, 2, 0, 23, false);
        due("al by all but 0 and 3", y.bents(0), 1023 - 1 - 8);
    }

    @Says("BENTS (bits); NONE: no such PERSON.")
    static void promise30_nothingDoneByCall() {
        SecondTelling x = of(MILL, 2);
        x.hear(3, 0, 0);
        x.go(5);
        x.see(3, 3, 0, 24, true);
        due("bea by 4", x.bents(1), 16);
        due("al as he likes", x.bents(0), 1023);
    }

    @Says("ASK of a PERSON and a THING: whom else (or him) one should ask as how many HATS he HAS the THING behind 20 DAYS"
            + " (as above; each number is an answer, that he hasn't it is one, too),")
    static void promise31_whomToAsk() {
        SecondTelling x = of(MILL);
        int[][] whom = {{2, 0}, {3, 0}, {0, 1}, {0, 0}};
        int[][] left = {{1, 10}, {1, 10}, {10, 1}, {10, 1}};
        for (int man = 0; man < 4; man++) {
            for (int thing = 0; thing < 2; thing++) {
                due("of " + man + ", " + thing + ": whom", x.ask(man, thing, 0), whom[man][thing]);
                due("of " + man + ", " + thing + ": left", x.ask(man, thing, 1), left[man][thing]);
            }
        }
        x.go(30);
        x.forget(3, 0);
        due("nothing done by call", x.ask(1, 0, 0), 3);
    }

    @Says("ASK, what 0: whom, 1: how many are left at worst. NONE: no such ones.")
    static void promise31_howManyAreLeftAtWorst() {
        // b hears t as 5, 5, 5, 15, 15, 15, 25, 25, 25, 35 by a's bending 0 .. 9; c never hears it
        SecondTelling x = of("man c 0;man a 0;man b 0;thing t 0 5;sees a t;way a b 1;law change hats+bent/3*10;");
        due("b", x.ask(1, 0, 0), 2);
        due("three", x.ask(1, 0, 1), 3);
        x.see(2, 2, 0, 5, false);
        x.see(2, 2, 0, 15, false);
        due("b still", x.ask(1, 0, 0), 2);
        due("three of four", x.ask(1, 0, 1), 3);
        x.see(2, 2, 0, 25, false);
        due("one is left whomever one asks", x.ask(1, 0, 0), 0);
        due("one", x.ask(1, 0, 1), 1);
    }

    // ---------------------------------------------------------------- 32, 33

    @Says("In how many of ten times drawn (numbers from a seed 0 .. 2147483647 on, one behind another; n 1 .. 99 DAYS from now)"
            + " a PERSON HAS a THING then;")
    static void promise32_ofTenTimes() {
        int[] talks = {50, 20, 14, 13, 60, 90, 9};
        int[] times = {7, 5, 3, 2, 9, 10, 0};
        for (int i = 0; i < talks.length; i++) {
            SecondTelling x = of(TALKERS + "talk " + talks[i] + ";", 1);
            due("one day, talk " + talks[i], x.chance(1, 1, 1, 0), times[i]);
            due("a has it", x.chance(1, 1, 0, 0), 10);
        }
        // by 20 days of talk 50 it is all but sure
        due("twenty days", of(TALKERS + "talk 50;", 1).chance(1, 20, 1, 0), 10);
    }

    @Says("TRIED for n DAYS as it goes: how many THINGS more are NEWS: 0 they talk always in (2), 1 never, 2 nothing goes by WAYS from PERSON i,"
            + " 3 all are BENT 0 (bent, too), 4 E of fits isn't asked, all is APART as it should (CHAINS are looked at all the same).")
    static void promise33_triedOtherwise() {
        SecondTelling x = of(MILL);
        due("always", x.tried(0, 0, 10), 2);
        due("never", x.tried(1, 0, 10), 0);
        int[] without = {1, 1, 2, 1};
        for (int man = 0; man < 4; man++) {
            due("nothing from " + man, x.tried(2, man, 10), without[man]);
        }
        due("unbent", x.tried(3, 0, 10), 0);
        due("as it is behind 7 days", x.tried(0, 0, 7), 1);
        due("the well, too, if all fits", x.tried(4, 0, 7), 2);
        due("but not ahead of cal's telling", x.tried(4, 0, 6), 1);
        x.go(5);
        due("one more", x.tried(0, 0, 5), 1);
        due("talked always though talk is 0", of(MILL + "talk 0;").tried(0, 0, 10), 2);
    }

    @Says("TRIED (n 0 .. 200); NONE: no such ones (i 0 of all but 2).")
    static void promise33_nothingIsChanged() {
        SecondTelling x = of(MILL, 2);
        String before = stateOf(x);
        for (int what = 0; what <= 4; what++) {
            x.tried(what, 0, 50);
        }
        due("state", stateOf(x), before);
    }

    // ---------------------------------------------------------------- 34 to 37

    @Says("Hearing, telling (PRINTED, NEWS, SPACE), forgetting by call can be undone, the latest first (20 at most), if no DAY went by since.")
    static void promise34_theLatestFirst() {
        SecondTelling x = of(MILL, 3);
        String[] before = new String[4];
        before[0] = stateOf(x);
        x.hear(2, 1, 0);
        before[1] = stateOf(x);
        x.tell(0, 0);
        before[2] = stateOf(x);
        due("it is news by this", x.tell(2, 0), 1);
        before[3] = stateOf(x);
        x.forget(2, 0);
        for (int left = 3; left >= 0; left--) {
            due("left", x.undo(), left);
            due("as it was ahead of the deed", stateOf(x), before[left]);
        }
    }

    @Says("The latest is undone: how many are left; NONE: none.")
    static void promise34_howManyAreLeft() {
        SecondTelling x = of(MILL, 3);
        x.forget(0, 0);
        x.forget(1, 0);
        due("one is left", x.undo(), 1);
        due("bea has it again", x.thing(0, 3), 10);
        due("none is left", x.undo(), 0);
        due("al has it again", x.thing(0, 3), 11);
        due("none", x.undo(), -1);
    }

    @Says("An IMAGE keeps all but what was SEEN.")
    static void promise35_keepsAll() {
        SecondTelling x = of(MILL + "talk 50;seed 9;", 6);
        String kept = stateOf(x);
        due("the day", x.keep(), 6);
        String behind = goOnFrom(x);
        x.back();
        due("as it was", stateOf(x), kept);
        due("and as it goes on", goOnFrom(x), behind);
    }

    private static String goOnFrom(SecondTelling x) {
        x.go(4);
        return stateOf(x);
    }

    @Says("An IMAGE is kept (in place of one ahead): which DAY it is.")
    static void promise35_inPlaceOfOneAhead() {
        SecondTelling x = of(MILL, 2);
        due("on day 2", x.keep(), 2);
        x.go(5);
        due("on day 7", x.keep(), 7);
        x.go(1);
        due("the later one", x.back(), 7);
    }

    @Says("All (but what was SEEN) is as in the IMAGE (nothing to undo then): which DAY it is; NONE: there is none.")
    static void promise36_backToTheImage() {
        SecondTelling x = of(MILL, 3);
        x.keep();
        x.go(8);
        x.see(3, 3, 0, 24, true);
        x.forget(0, 0);
        due("back", x.back(), 3);
        due("the day", x.count(5), 3);
        due("no news", x.count(6), 0);
        due("who has the mill", x.thing(0, 3), 11);
        due("nothing to undo", x.count(13), 0);
        due("seen stays", x.count(11), 1);
        due("the mill is news again", x.when(0), 2);
    }

    @Says("0 PEOPLE, 1 THINGS, 2 WAYS, 3 TELLS told, 4 KNOTS, 5 the DAY, 6 NEWS, 7 how many PEOPLE HAVE how many THINGS in sum,"
            + " 8 TELLINGS that are PRINTED, 9 SPACE, 10 IDLE so far, 11 SEEN, 12 by how many it is KNOWN, 13 what can be undone.")
    static void promise37_allCounts() {
        SecondTelling x = of(MILL + "tell al well 4;law print 7*day;", 10);
        x.see(3, 3, 0, 24, true);
        x.see(5, 1, 1, 67, true);
        x.known(1);
        x.forget(0, 0);
        x.tell(1, 1);
        x.hear(0, 2, 0);
        x.forget(3, 1);
        long[] due = {4, 2, 4, 6, 3, 10, 2, 7, 6, 28 + 63, 1, 2, 1, 4};
        for (int what = 0; what < due.length; what++) {
            due("count " + what, x.count(what), due[what]);
        }
    }
}
