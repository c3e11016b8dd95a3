/** Promises 1 to 5, sentence by sentence: the tape, the text, its faults, its names, where they are too small, too large, empty or full. */
public final class EdgesOfTextTest extends Check {
    private static final int BLANKS = 0x20202020;
    private static final String TWO = "man a 1;man b 2;thing t 0 5;";
    private static final String[] LANGUAGE = {
        "man", "thing", "sees", "way", "tell", "near", "far", "talk", "seed", "law", "change", "fits", "print",
        "or", "and", "not", "hats", "bent", "old", "apart", "many", "told", "day"};
    /** 63 KNOTS, so that one more is fine and two more aren't. */
    private static final String KNOTS63 = "law fits 1" + many("+1", 31) + ";";
    private static final String KNOTS64 = "law fits not 1" + many("+1", 31) + ";";

    public static void main(String[] args) throws Exception {
        runAll(EdgesOfTextTest.class, 1, 5);
    }

    private static int feedBlanks(SecondTelling x) {
        return x.feed(BLANKS, BLANKS, BLANKS, BLANKS, BLANKS);
    }

    private static SecondTelling withFullTape() {
        SecondTelling x = new SecondTelling();
        for (int i = 0; i < 35; i++) {
            feedBlanks(x);
        }
        return x;
    }

    // ---------------------------------------------------------------- 1

    @Says("A TEXT without LINES")
    static void promise1_aNewOneCountsNothing() {
        SecondTelling x = new SecondTelling();
        for (int what = 0; what <= 13; what++) {
            due("count " + what, x.count(what), 0);
        }
    }

    @Says("A TEXT without LINES")
    static void promise1_aNewOneHasNobodyAndNothing() {
        SecondTelling x = new SecondTelling();
        due("bent", x.bent(0), -1);
        due("has", x.has(0, 0, 0), -1);
        due("law", x.law(0, 0, 0, 0), ERROR);
        due("hear", x.hear(0, 1, 0), -1);
        due("tell", x.tell(0, 0), -1);
        due("forget", x.forget(0, 0), false);
        due("ahead", x.ahead(1, 1, 0), -1);
        due("when", x.when(0), -1);
        due("hears", x.hears(0, 0), -1);
        due("joined", x.joined(0, 1, 0), -1);
        due("pairs", x.pairs(0), -1);
        due("reach", x.reach(0), -1);
        due("hush", x.hush(0), -1);
        due("rests", x.rests(0, 1, 0), -1);
        due("rest", x.rest(0, 1, 0, 0), -1);
        due("see", x.see(1, 0, 0, 0, true), -1);
        due("bents", x.bents(0), -1);
        due("ask", x.ask(0, 0, 0), -1);
        due("chance", x.chance(0, 1, 0, 0), -1);
        due("tried", x.tried(2, 0, 1), -1);
    }

    @Says("A TEXT without LINES")
    static void promise1_daysGoByWithoutLines() {
        SecondTelling x = new SecondTelling();
        due("go", x.go(200), 200);
        due("ahead", x.ahead(200, 0, 0), 0);
        due("tried", x.tried(1, 0, 200), 0);
        due("keep", x.keep(), 200);
        due("back", x.back(), 200);
    }

    @Says("an empty TAPE")
    static void promise1_theTapeIsEmpty() {
        SecondTelling x = new SecondTelling();
        due("text of one byte", x.text(1), -2);
        due("the first bytes", feedBlanks(x), 20);
    }

    @Says("An object is used for at most 512 calls after it has been made")
    static void promise1_the512thCallIsAnswered() {
        SecondTelling x = new SecondTelling();
        int n = feedAll(x, "man a 7;thing t 0 9;sees a t;");
        due("text", x.text(n), 3);
        for (int call = 4; call < 512; call++) {
            due("call " + call, x.go(1), call - 3);
        }
        due("the 512th", x.has(0, 0, 0), 9);
    }

    // ---------------------------------------------------------------- 2

    @Says("how many it has")
    static void promise2_itIsFullWith700() {
        SecondTelling x = new SecondTelling();
        for (int i = 1; i <= 35; i++) {
            due("feed " + i, feedBlanks(x), 20 * i);
        }
    }

    @Says("NONE, and none come, if it would have more than 700")
    static void promise2_moreThan700AreRefused() {
        SecondTelling x = withFullTape();
        due("a 36th time", feedBlanks(x), -1);
        due("a 37th time", feedBlanks(x), -1);
    }

    @Says("NONE, and none come, if it would have more than 700")
    static void promise2_noneComeIfRefused() {
        SecondTelling x = new SecondTelling();
        feedAll(x, many(" ", 692) + "man a 3;");
        due("refused", x.feed(0x39393939, 0x39393939, 0x39393939, 0x39393939, 0x39393939), -1);
        due("not so many", x.text(701), -2);
        due("all 700", x.text(700), 1);
        due("as they came", x.bent(0), 3);
    }

    @Says("NONE, and none come, if it would have more than 700")
    static void promise2_behindATextThereIsRoomAgain() {
        SecondTelling x = withFullTape();
        due("refused", feedBlanks(x), -1);
        due("text", x.text(700), 0);
        due("room", feedBlanks(x), 20);
    }

    @Says("four of each number, the highest first")
    static void promise2_theHighestOfEachNumberComesFirst() {
        SecondTelling x = new SecondTelling();
        // man, a blank | bcdef | ...
        due("feed", x.feed(0x6d616e20, 0x62636465, 0x66203420, 0x3b6d616e, 0x20612035), 20);
        due("feed on", x.feed(0x3b202020, BLANKS, BLANKS, BLANKS, BLANKS), 40);
        due("text", x.text(21), 2);
        due("bcdef", x.named(0, letters("bcdef")), 0);
        due("its bent", x.bent(0), 4);
        due("a", x.bent(1), 5);
    }

    @Says("four of each number, the highest first")
    static void promise2_aNumberBelow0IsFourBytesToo() {
        SecondTelling x = new SecondTelling();
        due("feed", x.feed(0x6d616e20, 0x6120313b, 0xff202020, BLANKS, BLANKS), 20);
        due("the byte 255 is no token", x.text(9), -1);
        due("at its place", x.fault(1), 8);
        due("feed", x.feed(0x6d616e20, 0x6120313b, 0xff202020, BLANKS, BLANKS), 20);
        due("ahead of it all is fine", x.text(8), 1);
    }

    // ---------------------------------------------------------------- 3

    @Says("The TAPE's first n bytes (it is empty then) are the TEXT")
    static void promise3_allOfTheTape() {
        SecondTelling x = new SecondTelling();
        feedAll(x, "man a 1;man bcd 22; ");
        due("a fault within 20", x.text(20), -1);
        feedAll(x, "man a 1; man bcd 2; ");
        due("all 20", x.text(20), 2);
        feedAll(x, many(" ", 692) + "man a 3;");
        due("all 700", x.text(700), 1);
    }

    @Says("The TAPE's first n bytes (it is empty then) are the TEXT")
    static void promise3_whatIsBehindTheFirstNIsGone() {
        SecondTelling x = new SecondTelling();
        feedAll(x, "man a 1;man b 2;");
        due("the first 8", x.text(8), 1);
        due("one man", x.count(0), 1);
        due("nothing is left", x.text(1), -2);
        due("it was empty", feedBlanks(x), 20);
    }

    @Says("how many LINES")
    static void promise3_noBytesAreATextWithoutLines() {
        SecondTelling x = of(TOWN, 3);
        feedBlanks(x);
        due("text", x.text(0), 0);
        due("nobody", x.count(0), 0);
        due("day", x.count(5), 0);
        due("the tape is empty", x.text(1), -2);
    }

    @Says("how many LINES")
    static void promise3_blanksAloneAreNoLine() {
        fine(" ", 0);
        fine("\n", 0);
        fine(many(" \n", 350), 0);
    }

    @Says("how many LINES")
    static void promise3_asManyLinesAsATapeCanHave() {
        String all = SEVEN + SIX + many("way a b 1;", 12) + many("tell a a 1;", 12) + "near 1;far 2;talk 3;seed 4;"
                + "sees a a;sees a b;sees a c;sees a d;sees a e;sees a f;sees b a;sees b b;sees b c;sees b d;"
                + "law change 1;law fits 1;law print 1;";
        fine(all, 7 + 6 + 12 + 12 + 4 + 10 + 3);
    }

    @Says("-2, and the TAPE stays: there are not so many")
    static void promise3_moreThanThereAreIsRefused() {
        SecondTelling x = new SecondTelling();
        due("of none", x.text(1), -2);
        feedAll(x, "man a 1; man bcd 2; ");
        due("21 of 20", x.text(21), -2);
        due("far more", x.text(Integer.MAX_VALUE), -2);
        due("the tape stays", x.text(20), 2);
    }

    @Says("n is below 0")
    static void promise3_nBelow0IsRefused() {
        SecondTelling x = new SecondTelling();
        feedAll(x, "man a 1; man bcd 2; ");
        due("-1", x.text(-1), -2);
        due("far below", x.text(Integer.MIN_VALUE), -2);
        due("the tape stays", x.text(20), 2);
    }

    @Says("-2, and the TAPE stays")
    static void promise3_aRefusedTextLeavesAll() {
        SecondTelling x = busy();
        String before = stateOf(x);
        due("refused", x.text(1), -2);
        due("refused below", x.text(-1), -2);
        due("state", stateOf(x), before);
        due("image", x.back(), 1);
    }

    /** Something of all that a TEXT begins anew. */
    private static SecondTelling busy() {
        SecondTelling x = of(TOWN + "tell ann marsh 0;", 1);
        x.keep();
        x.go(1);
        x.tell(1, 0);
        x.tell(2, 0);
        x.see(2, 1, 0, 12, true);
        x.see(2, 1, 0, 12, false);
        x.known(1);
        due("day", x.count(5), 2);
        due("news", x.count(6), 1);
        due("held", x.count(7), 4);
        due("printed", x.count(8), 2);
        due("space", x.count(9), 1);
        due("idle", x.count(10), 1);
        due("seen", x.count(11), 2);
        due("known", x.count(12), 1);
        due("to undo", x.count(13), 2);
        return x;
    }

    @Says("NONE with a FAULT, all stays")
    static void promise3_withAFaultAllStays() {
        SecondTelling x = busy();
        String before = stateOf(x);
        due("a fault", load(x, "man x 1;man y 2;thing z 1 1;near 5;law fits 1;law change 2;nothing;"), -1);
        due("state", stateOf(x), before);
        due("names", x.named(0, letters("x")), -1);
        due("bent", x.bent(0), 2);
        due("laws", x.law(0, 0, 0, 0), ERROR);
        due("image", x.back(), 1);
    }

    @Says("NONE with a FAULT, all stays")
    static void promise3_withAFaultTheLawsStay() {
        SecondTelling x = of("man a 3;thing t 0 4;sees a t;law change hats*10+bent;", 1);
        due("a law that is cut", load(x, "law change 1+(2*"), -1);
        due("its value", x.law(0, 0, 0, 0), 43);
        due("its knots", x.count(4), 5);
    }

    @Says("how many LINES")
    static void promise3_nothingOfATextWithAFaultIsLeft() {
        SecondTelling x = of(TWO);
        String most = SEVEN + "thing t 0 5;thing u 0 6;sees a t;sees a u;sees b t;sees b u;sees c t;sees c u;sees d t;sees d u;sees e t;sees e u;"
                + "way a b 1;tell a t 1;near 5;far 6;talk 7;seed 8;law change 1;law fits 2;";
        due("a fault in its last law", load(x, most + "law print ((1+(2*(not 3"), -1);
        String text = TWO + "sees b t;law change ((((((((hats or 0))))))));";
        due("the text behind it", load(x, text), 5);
        int[] counts = {2, 1, 0, 0, 3};
        for (int what = 0; what < counts.length; what++) {
            due("count " + what, x.count(what), counts[what]);
        }
        due("talk as without", x.silent(1, 0), 0);
        x.go(3);
        due("b alone sees it", x.thing(0, 3), 2);
        due("its change", x.law(0, 0, 1, 0), 1);
        due("no fits", x.law(1, 0, 0, 1), ERROR);
    }

    @Says("how many LINES")
    static void promise3_nothingOfTextsAheadIsLeft() {
        String most = SEVEN + "thing t 0 5;thing u 0 6;sees a t;sees a u;sees b t;sees b u;sees c t;sees c u;sees d t;sees d u;sees e t;sees e u;"
                + "way a b 1;tell a t 1;near 0;far 6;talk 7;seed 8;law change 1;law fits 2;law print 3+4;";
        SecondTelling x = of(most);
        due("the same again", load(x, most), 28);
        String text = TWO + "sees a t;sees b t;tell a t 0;tell b t 0;";
        due("another one", load(x, text), 7);
        int[] counts = {2, 1, 0, 2, 0};
        for (int what = 0; what < counts.length; what++) {
            due("count " + what, x.count(what), counts[what]);
        }
        due("no news with near as without", x.ahead(9, 0, 0), 0);
        x.go(1);
        due("no change", x.law(0, 0, 0, 1), ERROR);
        due("no fits", x.law(1, 0, 0, 1), ERROR);
        due("no print", x.law(2, 0, 0, 1), ERROR);
        due("a new law", load(x, TWO + "sees a t;law fits 1;law change 9;"), 6);
        x.go(1);
        due("its value", x.law(0, 0, 0, 1), 9);
    }

    @Says("a 65th KNOT of all E")
    static void promise3_64KnotsInEachOfManyTexts() {
        SecondTelling x = new SecondTelling();
        for (int i = 1; i <= 5; i++) {
            due("text " + i, load(x, TWO + "sees a t;law change not " + i + many("-1", 31) + ";"), 5);
            due("knots", x.count(4), 64);
            x.go(1);
            due("its value", x.law(0, 0, 0, 0), 0);
            due("too many " + i, load(x, KNOTS64 + "law print 1;"), -1);
        }
    }

    @Says("it is empty then")
    static void promise3_withAFaultTheTapeIsEmpty() {
        SecondTelling x = new SecondTelling();
        due("a fault", load(x, "man a 1;nothing;"), -1);
        due("no bytes", x.text(1), -2);
        due("the first bytes", feedBlanks(x), 20);
    }

    @Says("DAY 0")
    static void promise3_thenItIsDay0() {
        SecondTelling x = busy();
        due("text", load(x, TOWN), 16);
        due("day", x.count(5), 0);
        due("keep", x.keep(), 0);
    }

    @Says("nobody HAS anything")
    static void promise3_thenNobodyHasAnything() {
        SecondTelling x = busy();
        due("text", load(x, TOWN), 16);
        due("sum", x.count(7), 0);
        for (int man = 0; man < 4; man++) {
            due("has " + man, x.has(man, 0, 0), -2);
        }
    }

    @Says("nothing PRINTED")
    static void promise3_thenNothingIsPrinted() {
        SecondTelling x = busy();
        due("text", load(x, TOWN), 16);
        due("printed", x.count(8), 0);
        due("by nobody", x.thing(0, 4), 0);
        due("news", x.count(6), 0);
        due("fire is none", x.thing(0, 2), -2);
        due("space", x.count(9), 0);
        due("idle", x.count(10), 0);
    }

    @Says("nothing PRINTED, SEEN, all KNOWN")
    static void promise3_thenNothingIsSeen() {
        SecondTelling x = busy();
        due("text", load(x, TOWN), 16);
        due("seen", x.count(11), 0);
        due("bents", x.bents(0), 1023);
        due("nothing to strike", x.strike(0), -1);
        due("the first number again", x.see(1, 0, 0, 0, true), 0);
    }

    @Says("all KNOWN")
    static void promise3_thenAllIsKnown() {
        SecondTelling x = busy();
        due("text", load(x, TOWN), 16);
        x.see(2, 1, 0, 12, true);
        x.see(2, 1, 0, 12, false);
        due("by both", x.count(12), 2);
        due("bents", x.bents(0), 0);
    }

    @Says("no IMAGE")
    static void promise3_thenThereIsNoImage() {
        SecondTelling x = busy();
        due("text", load(x, TOWN), 16);
        due("back", x.back(), -1);
    }

    @Says("nothing to undo then")
    static void promise3_thenThereIsNothingToUndo() {
        SecondTelling x = busy();
        due("text", load(x, TOWN), 16);
        due("how many", x.count(13), 0);
        due("undo", x.undo(), -1);
    }

    @Says("at first the seed")
    static void promise3_thenNumbersBeginAtTheSeed() {
        String text = "man a 1;man b 2;thing t 0 9;sees a t;way a b 1;talk 20;seed 77;";
        SecondTelling x = of(text, 9);
        int heard = x.has(1, 0, 1);
        due("text", load(x, text), 7);
        x.go(9);
        due("heard as before", x.has(1, 0, 1), heard);
    }

    // ---------------------------------------------------------------- 4: what is asked

    @Says("its FAULT (0), 1: its place (NONE without)")
    static void promise4_aNewOneHasNone() {
        SecondTelling x = new SecondTelling();
        due("fault", x.fault(0), 0);
        due("place", x.fault(1), -1);
    }

    @Says("its FAULT (0), 1: its place (NONE without)")
    static void promise4_noneBehindATextThatIsFine() {
        SecondTelling x = new SecondTelling();
        load(x, "man m 10;");
        due("a fault", x.fault(0), 2);
        due("its place", x.fault(1), 6);
        load(x, "man m 1;");
        due("none", x.fault(0), 0);
        due("no place", x.fault(1), -1);
    }

    @Says("Of the latest text() that was not -2")
    static void promise4_aRefusedTextIsNotLookedAt() {
        SecondTelling x = new SecondTelling();
        load(x, "man m 10;");
        x.text(1);
        x.text(-1);
        due("the fault ahead", x.fault(0), 2);
        due("its place", x.fault(1), 6);
    }

    @Says("NONE for another what")
    static void promise4_noOtherWhat() {
        SecondTelling x = new SecondTelling();
        load(x, "man m 10;");
        for (int what : new int[] {-1, 2, Integer.MIN_VALUE, Integer.MAX_VALUE}) {
            due("fault " + what, x.fault(what), -1);
        }
    }

    // ---------------------------------------------------------------- 4: which is the first

    @Says("FAULTS, the first along the text")
    static void promise4_theFirstAlongTheTextCounts() {
        faulty("man A 1;man b 10;", 1, 4);
        faulty("man b 10;man A 1;", 2, 6);
        faulty("man a 1;way a a 10;", 5, 14);
        faulty("man a 1;man a 10;", 3, 12);
        faulty("way x x 10;", 4, 4);
        faulty("near 1;near 100;", 3, 7);
        faulty("law fits 1;law fits 10000;", 3, 15);
    }

    @Says("of one place the least")
    static void promise4_ofOnePlaceTheLeast() {
        // a number beyond all that is said, where none can stand
        faulty("man 100000;", 1, 4);
        faulty("law fits 1 10000;", 1, 11);
        // a ninth '(' where none can stand
        faulty("law fits ((((((((1(", 1, 18);
        // a 65th KNOT where none can stand
        faulty(KNOTS63 + "law print 1 1;", 1, KNOTS63.length() + 12);
        faulty(KNOTS63 + "law print 1 not 1;", 1, KNOTS63.length() + 12);
        faulty(KNOTS64 + "law print and;", 1, KNOTS64.length() + 10);
        faulty(KNOTS64 + "law print +1;", 1, KNOTS64.length() + 10);
    }

    // ---------------------------------------------------------------- 4: FAULT 1

    @Says("1 a TOKEN that is none")
    static void promise4_signsThatAreNoToken() {
        for (char sign : "ABYZ!\"#$%&',.:?@[\\]^_`{|}~".toCharArray()) {
            faulty("man " + sign + " 1;", 1, 4);
            faulty("law fits 1" + sign + "1;", 1, 10);
        }
        faulty("man a 1;!", 1, 8);
    }

    @Says("Blanks 10, 32.")
    static void promise4_onlyTwoBytesAreBlanks() {
        fine("man\na\n1\n;\n", 1);
        fine("man  a  1  ;  ", 1);
        for (char sign : new char[] {0, 1, 8, 9, 11, 12, 13, 31, 127, 128, 138, 160, 255}) {
            faulty("man" + sign + "a 1;", 1, 3);
            faulty("man a 1;" + sign, 1, 8);
        }
    }

    @Says("1 a TOKEN that is none")
    static void promise4_aByteAbove127IsNoLetter() {
        faulty("man " + (char) ('a' + 128) + " 1;", 1, 4);
        faulty("man a " + (char) ('1' + 128) + ";", 1, 6);
        faulty("man a 1" + (char) (';' + 128), 1, 7);
    }

    @Says("a word of more than 6 letters that is none of the language, too")
    static void promise4_aWordOfSevenLettersIsNoToken() {
        faulty("man abcdefg 1;", 1, 4);
        faulty("man " + many("a", 64) + " 1;", 1, 4);
        faulty("changes 1;", 1, 0);
        faulty("man a 1;thing t 0 0;sees a ttttttt;", 1, 27);
        faulty("law fits hatsold;", 1, 9);
        faulty("law fits notnotn 1;", 1, 9);
    }

    @Says("W: one of 1 .. 6 letters")
    static void promise4_namesOfOneAndOfSixLetters() {
        fine("man a 1;man abcdef 1;man zzzzzz 1;thing z 0 0;thing zzzzzz 0 0;", 5);
        faulty("man 1;", 1, 4);
    }

    @Says("none of those of the language")
    static void promise4_wordsOfTheLanguageAreNoNames() {
        for (String word : LANGUAGE) {
            faulty("man " + word + " 1;", 1, 4);
            faulty("thing " + word + " 1 1;", 1, 6);
        }
        fine("man mann 1;man thin 1;man ors 1;man nota 1;man hat 1;", 5);
    }

    @Says("or can't stand there")
    static void promise4_tokensThatCantBeginALine() {
        for (String word : LANGUAGE) {
            boolean begins = "man thing sees way tell near far talk seed law".contains(word);
            faulty(word, 1, begins ? word.length() : 0);
        }
        for (String token : new String[] {";", "1", "x", "(", ")", "+", "-", "*", "/", "<", "<=", "=", "<>", ">=", ">"}) {
            faulty(token, 1, 0);
        }
        faulty("man a 1;;", 1, 8);
    }

    @Says("or can't stand there")
    static void promise4_tokensThatCantStandInALine() {
        faulty("man 1 a;", 1, 4);
        faulty("man a b 1;", 1, 6);
        faulty("man a ;", 1, 6);
        faulty("man a 1 1;", 1, 8);
        faulty("man a -1;", 1, 6);
        faulty("thing t 1;", 1, 9);
        faulty("thing t 1 1 1;", 1, 12);
        faulty(TWO + "sees a;", 1, TWO.length() + 6);
        faulty(TWO + "sees a t 1;", 1, TWO.length() + 9);
        faulty(TWO + "way a 1;", 1, TWO.length() + 6);
        faulty(TWO + "way a b;", 1, TWO.length() + 7);
        faulty(TWO + "tell a t;", 1, TWO.length() + 8);
        faulty("near;", 1, 4);
        faulty("far 1 1;", 1, 6);
        faulty("talk x;", 1, 5);
        faulty("seed (1);", 1, 5);
        faulty("law 1;", 1, 4);
        faulty("law x 1;", 1, 4);
        for (String word : LANGUAGE) {
            if (word.equals("change") || word.equals("fits") || word.equals("print")) {
                fine("law " + word + " 1;", 1);
            } else {
                faulty("law " + word + " 1;", 1, 4);
            }
        }
    }

    @Says("or can't stand there")
    static void promise4_tokensThatCantStandInAnE() {
        faulty("law fits;", 1, 8);
        faulty("law fits ();", 1, 10);
        faulty("law fits 1);", 1, 10);
        faulty("law fits (1;", 1, 11);
        faulty("law fits 1 2;", 1, 11);
        faulty("law fits -1;", 1, 9);
        faulty("law fits 1+;", 1, 11);
        faulty("law fits 1 and;", 1, 14);
        faulty("law fits not;", 1, 12);
        faulty("law fits 1 not 2;", 1, 11);
        faulty("law fits 1+not 2;", 1, 11);
        faulty("law fits 1<not 2;", 1, 11);
        faulty("law fits 1<2<3;", 1, 12);
        faulty("law fits 1<2+3=4;", 1, 14);
        faulty("law fits x;", 1, 9);
        faulty("law fits man;", 1, 9);
        faulty("law fits fits;", 1, 9);
        fine("law fits (not 1)+(2<3)<(3<4) and not not 1;", 1);
    }

    @Says("A = (or > behind <) right behind < or > belongs to it.")
    static void promise4_signsOfTwoBytes() {
        fine("law fits 1<=2 and 1<>2 and 1>=2;", 1);
        faulty("law fits 1< =2;", 1, 12);
        faulty("law fits 1< >2;", 1, 12);
        faulty("law fits 1>\n=2;", 1, 12);
        faulty("law fits 1><2;", 1, 11);
        faulty("law fits 1>>2;", 1, 11);
        faulty("law fits 1<<2;", 1, 11);
        faulty("law fits 1=<2;", 1, 11);
        faulty("law fits 1=>2;", 1, 11);
        faulty("law fits 1==2;", 1, 11);
        faulty("law fits 1<>=2;", 1, 12);
        faulty("law fits 1<=>2;", 1, 12);
        faulty("law fits 1>==2;", 1, 12);
    }

    @Says("the length, if more must come")
    static void promise4_theLengthIfMoreMustCome() {
        String[] lines = {"man c 1 ;", "thing u 1 2 ;", "sees a t ;", "way a b 1 ;", "tell a t 1 ;", "near 1 ;", "far 1 ;",
            "talk 1 ;", "seed 1 ;", "law fits 1 + ( not 2 <= hats ) and day ;"};
        for (String line : lines) {
            for (int at = line.indexOf(' '); at >= 0; at = line.indexOf(' ', at + 1)) {
                String cut = TWO + line.substring(0, at);
                faulty(cut, 1, cut.length());
            }
            fine(TWO + line, 4);
        }
    }

    @Says("the length, if more must come")
    static void promise4_blanksAtTheEndAreOfTheLength() {
        faulty("man ", 1, 4);
        faulty("man a 1 \n ", 1, 10);
        SecondTelling x = new SecondTelling();
        feedAll(x, "man a 1;");
        due("cut by n", x.text(7), -1);
        due("fault", x.fault(0), 1);
        due("place", x.fault(1), 7);
    }

    private static void cut(String tape, int n, int place) {
        SecondTelling x = new SecondTelling();
        feedAll(x, tape);
        due("text " + n + " of " + tape, x.text(n), -1);
        due("fault(0)", x.fault(0), 1);
        due("fault(1)", x.fault(1), place);
    }

    @Says("the length, if more must come")
    static void promise4_whatIsBehindTheFirstNIsntLookedAt() {
        cut("man abcdef 1;", 5, 5);
        cut("man abcdef 1;", 2, 0);
        cut("man a 12;", 7, 7);
        cut("law fits 1<=2;", 11, 11);
        cut("law fits 1<>2;", 11, 11);
        cut("law fits 1>=2;", 11, 11);
        cut("man a 1 ;", 8, 8);
    }

    @Says("the length, if more must come")
    static void promise4_theLengthOfAFullTape() {
        String blanks = many(" ", 680);
        cut(blanks + "              man ab", 700, 700);
        cut(blanks + "            man a 12".replace("12", " 1"), 700, 700);
        cut(blanks + "         law fits 1<", 700, 700);
        cut(blanks + "         law fits 1>", 700, 700);
        cut(blanks + "         law fits 1 ", 700, 700);
    }

    // ---------------------------------------------------------------- 4: FAULT 2

    @Says("BENT 0 .. 9")
    static void promise4_bent0To9() {
        fine("man a 0;man b 9;", 2);
        faulty("man a 10;", 2, 6);
    }

    @Says("THINGS, at most 6: a DAY 0 .. 99, HATS 0 .. 99")
    static void promise4_aThingsDay0To99() {
        fine("thing t 0 5;thing u 99 5;", 2);
        faulty("thing t 100 5;", 2, 8);
    }

    @Says("THINGS, at most 6: a DAY 0 .. 99, HATS 0 .. 99")
    static void promise4_aThingsHats0To99() {
        fine("thing t 5 0;thing u 5 99;", 2);
        faulty("thing t 5 100;", 2, 10);
    }

    @Says("from a PERSON to another one behind DAYS 1 .. 9")
    static void promise4_aWaysDays1To9() {
        fine(TWO + "way a b 1;way a b 9;", 5);
        faulty(TWO + "way a b 0;", 2, TWO.length() + 8);
        faulty(TWO + "way a b 10;", 2, TWO.length() + 8);
    }

    @Says("a PERSON a THING on a DAY 0 .. 99")
    static void promise4_aTellsDay0To99() {
        fine(TWO + "tell a t 0;tell a t 99;", 5);
        faulty(TWO + "tell a t 100;", 2, TWO.length() + 9);
    }

    @Says("near: 0 .. 99 (1 without)")
    static void promise4_near0To99() {
        fine("near 0;", 1);
        fine("near 99;", 1);
        faulty("near 100;", 2, 5);
    }

    @Says("far: 0 .. 99 (9)")
    static void promise4_far0To99() {
        fine("far 0;", 1);
        fine("far 99;", 1);
        faulty("far 100;", 2, 4);
    }

    @Says("talk: of a hundred 0 .. 100 (100)")
    static void promise4_talk0To100() {
        fine("talk 0;", 1);
        fine("talk 100;", 1);
        faulty("talk 101;", 2, 5);
    }

    @Says("seed: 0 .. 99999 (0)")
    static void promise4_seed0To99999() {
        fine("seed 0;", 1);
        fine("seed 99999;", 1);
        faulty("seed 100000;", 2, 5);
    }

    @Says("N of E 0 .. 9999")
    static void promise4_numbersOfELawTo9999() {
        fine("law fits 0;law print 9999;", 2);
        faulty("law fits 10000;", 2, 9);
        faulty("law fits 1+10000;", 2, 11);
    }

    @Says("a number beyond what is said")
    static void promise4_numbersBeyondEveryIntAndLong() {
        for (String number : new String[] {"2147483648", "4294967296", "4294967297", "9223372036854775808", "18446744073709551616",
            "18446744073709551617", "1" + many("0", 300), many("9", 400)}) {
            faulty("man a " + number + ";", 2, 6);
            faulty("seed " + number + ";", 2, 5);
            faulty("law fits " + number + ";", 2, 9);
        }
    }

    @Says("N: digits.")
    static void promise4_noughtsAheadOfANumberAreFine() {
        SecondTelling x = of("man a " + many("0", 300) + "9;");
        due("bent", x.bent(0), 9);
        faulty("man a 0010;", 2, 6);
    }

    @Says("PEOPLE (man), at most 7")
    static void promise4_anEighthMan() {
        fine(SEVEN, 7);
        faulty(SEVEN + "man h 1;", 2, SEVEN.length());
        faulty(SEVEN + "man", 2, SEVEN.length());
        faulty(SEVEN + "man a", 2, SEVEN.length());
    }

    @Says("THINGS, at most 6")
    static void promise4_aSeventhThing() {
        fine(SIX, 6);
        faulty(SIX + "thing g 1 1;", 2, SIX.length());
        faulty(SIX + "thing", 2, SIX.length());
    }

    @Says("sees, at most 10")
    static void promise4_anEleventhSees() {
        String ten = SEVEN + SIX + "sees a a;sees b a;sees c a;sees d a;sees e a;sees f a;sees g a;sees a b;sees b b;sees c b;";
        fine(ten, 23);
        faulty(ten + "sees d b;", 2, ten.length());
        faulty(ten + "sees a a;", 2, ten.length());
        faulty(ten + "sees", 2, ten.length());
    }

    @Says("WAYS, at most 12")
    static void promise4_aThirteenthWay() {
        String twelve = TWO + many("way a b 1;", 12);
        fine(twelve, 15);
        faulty(twelve + "way b a 1;", 2, twelve.length());
        faulty(twelve + "way", 2, twelve.length());
    }

    @Says("TELLS (tell), at most 12")
    static void promise4_aThirteenthTell() {
        String twelve = TWO + many("tell a t 1;", 12);
        fine(twelve, 15);
        faulty(twelve + "tell b t 1;", 2, twelve.length());
        faulty(twelve + "tell", 2, twelve.length());
    }

    @Says("a ninth '(' open")
    static void promise4_aNinthOpen() {
        fine("law fits ((((((((1))))))));", 1);
        faulty("law fits (((((((((1)))))))));", 2, 17);
        faulty("law fits ((((1+((((1)+(1", 1, 24);
        faulty("law fits ((((1+((((1)+((1", 2, 23);
    }

    @Says("a ninth '(' open")
    static void promise4_whatIsClosedIsOpenNoMore() {
        fine("law fits ((((((((1))))))))+((((((((1))))))));law print ((((((((1))))))));", 2);
        fine("law fits (1)+(1)+(1)+(1)+(1)+(1)+(1)+(1)+(1)+(1);", 1);
    }

    @Says("a 65th KNOT of all E")
    static void promise4_64KnotsAreFine() {
        fine(KNOTS64, 1);
        fine(KNOTS63 + "law print 1;", 2);
        due("64", of(KNOTS63 + "law print 1;").count(4), 64);
    }

    @Says("N, NAMES, signs, not, and, or: one each")
    static void promise4_eachKindOfKnotCanBeThe65th() {
        int at = KNOTS64.length() + 10;
        faulty(KNOTS64 + "law print 1;", 2, at);
        faulty(KNOTS64 + "law print not 1;", 2, at);
        for (String name : new String[] {"hats", "bent", "old", "apart", "many", "told", "day"}) {
            faulty(KNOTS64 + "law print " + name + ";", 2, at);
        }
        int behind = KNOTS63.length() + 12;
        for (String sign : new String[] {"+", "-", "*", "/", "<", "<=", "=", "<>", ">=", ">", "and", "or"}) {
            faulty(KNOTS63 + "law print 1 " + sign + " 1;", 2, behind);
        }
    }

    @Says("a 65th KNOT of all E (N, NAMES, signs, not, and, or: one each)")
    static void promise4_bracketsAreNoKnots() {
        fine(KNOTS63 + "law print ((((((((1))))))));", 2);
        faulty(KNOTS64 + "law print ((1;", 2, KNOTS64.length() + 12);
        due("knots", of("law print ((((((((1))))))));").count(4), 1);
    }

    // ---------------------------------------------------------------- 4: FAULTS 3, 4, 5

    @Says("3 told already: a name of its kind (at W)")
    static void promise4_aNameOfItsKind() {
        faulty("man a 1;man a 2;", 3, 12);
        faulty("thing a 1 1;thing a 2 2;", 3, 18);
        faulty("man a 1;man b 1;man abcdef 1;man abcdef 1;", 3, 33);
        fine("man a 1;thing a 1 1;sees a a;tell a a 1;", 4);
        fine("man abcdef 1;man abcde 1;man abcdeg 1;", 3);
    }

    @Says("who sees what (at the second W)")
    static void promise4_whoSeesWhatAlready() {
        faulty(TWO + "sees a t;sees a t;", 3, TWO.length() + 16);
        fine(TWO + "thing u 0 0;sees a t;sees b t;sees a u;sees b u;", 8);
        fine(TWO + "way a b 1;way a b 1;tell a t 1;tell a t 1;", 7);
    }

    @Says("near, far, talk, seed (at the word)")
    static void promise4_aSettingAlready() {
        for (String word : new String[] {"near", "far", "talk", "seed"}) {
            String once = word + " 1;";
            faulty(once + word + " 1;", 3, once.length());
            faulty(once + word, 3, once.length());
            faulty(once + "man a 1;" + word + " 1;", 3, once.length() + 8);
        }
        fine("near 1;far 1;talk 1;seed 1;", 4);
    }

    @Says("a law of its RULE (at RULE)")
    static void promise4_aLawAlready() {
        for (String rule : new String[] {"change", "fits", "print"}) {
            String once = "law " + rule + " 0;";
            faulty(once + "law " + rule + " 0;", 3, once.length() + 4);
            faulty(once + "law " + rule, 3, once.length() + 4);
        }
        fine("law change 0;law fits 0;law print 0;", 3);
    }

    @Says("4 a PERSON, a THING that isn't told ahead (at W)")
    static void promise4_aPersonThatIsntTold() {
        faulty("sees a t;man a 1;", 4, 5);
        faulty(TWO + "sees c t;", 4, TWO.length() + 5);
        faulty(TWO + "sees t t;", 4, TWO.length() + 5);
        faulty(TWO + "way c b 1;", 4, TWO.length() + 4);
        faulty(TWO + "way a c 1;man c 1;", 4, TWO.length() + 6);
        faulty(TWO + "way a t 1;", 4, TWO.length() + 6);
        faulty(TWO + "tell c t 1;", 4, TWO.length() + 5);
    }

    @Says("4 a PERSON, a THING that isn't told ahead (at W)")
    static void promise4_aThingThatIsntTold() {
        faulty(TWO + "sees a u;thing u 1 1;", 4, TWO.length() + 7);
        faulty(TWO + "sees a b;", 4, TWO.length() + 7);
        faulty(TWO + "tell a u 1;", 4, TWO.length() + 7);
        faulty(TWO + "tell a a 1;", 4, TWO.length() + 7);
    }

    @Says("4 a PERSON, a THING that isn't told ahead (at W)")
    static void promise4_namesOfATextAheadAreGone() {
        SecondTelling x = of(TWO);
        due("a name of the text ahead", load(x, "man a 1;way a b 1;"), -1);
        due("fault", x.fault(0), 4);
        due("place", x.fault(1), 14);
    }

    @Says("5 a WAY from one to oneself (at the second W)")
    static void promise4_aWayToOneself() {
        faulty("man a 1;way a a 1;", 5, 14);
        faulty(TWO + "way b b 0;", 5, TWO.length() + 6);
    }

    // ---------------------------------------------------------------- 5

    @Says("NONE: there is none such")
    static void promise5_noSuchName() {
        SecondTelling x = of("man a 1;man abcdef 1;thing t 1 1;");
        due("nobody of this name", x.named(0, letters("b")), -1);
        due("nothing of this name", x.named(1, letters("a")), -1);
        due("a thing is no person", x.named(0, letters("t")), -1);
        due("no letters", x.named(0, 0), -1);
        due("of a new one", new SecondTelling().named(0, 0), -1);
    }

    @Says("5 bits each (a is 1; the first one highest of six, 0 behind the last one)")
    static void promise5_theFirstLetterIsTheHighestOfSix() {
        SecondTelling x = of("man a 1;man ab 1;man zzzzzz 1;thing zzzzzz 1 1;");
        due("a", x.named(0, 1 << 25), 0);
        due("ab", x.named(0, 1 << 25 | 2 << 20), 1);
        due("zzzzzz", x.named(0, 0x35ad6b5a), 2);
        due("thing zzzzzz", x.named(1, letters("zzzzzz")), 0);
        due("a as the lowest", x.named(0, 1), -1);
        due("a behind nothing", x.named(0, 1 << 20), -1);
    }

    @Says("NONE: there is none such")
    static void promise5_bitsAboveSixLetters() {
        SecondTelling x = of("man a 1;");
        due("bit 30", x.named(0, letters("a") | 1 << 30), -1);
        due("bit 31", x.named(0, letters("a") | 1 << 31), -1);
        due("all bits", x.named(0, -1), -1);
        due("the lowest number", x.named(0, Integer.MIN_VALUE), -1);
    }

    @Says("The number of a PERSON (what 0), a THING (1)")
    static void promise5_noOtherWhat() {
        SecondTelling x = of("man a 1;thing a 1 1;");
        for (int what : new int[] {-1, 2, Integer.MIN_VALUE, Integer.MAX_VALUE}) {
            due("named " + what, x.named(what, letters("a")), -1);
        }
    }

    @Says("NONE: there is none such")
    static void promise5_namesOfATextAheadAreGone() {
        SecondTelling x = of("man a 1;man b 1;thing t 1 1;");
        load(x, "man c 1;");
        due("a", x.named(0, letters("a")), -1);
        due("b", x.named(0, letters("b")), -1);
        due("t", x.named(1, letters("t")), -1);
        due("c", x.named(0, letters("c")), 0);
    }
}
