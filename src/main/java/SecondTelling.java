import java.util.NoSuchElementException;

/** Only the second telling's news; what each call promises stands in the project's document. */
public final class SecondTelling {
    public static final int NONE = -1;

    /** "He hasn't it", "there are not so many": a call that could be asked but has nothing to tell. */
    private static final int NOT_SO = -2;

    private static final int MOST_BYTES = 700;
    private static final int MOST_PEOPLE = 7;
    private static final int MOST_THINGS = 6;
    private static final int MOST_SEES = 10;
    private static final int MOST_WAYS = 12;
    private static final int MOST_TELLS = 12;
    private static final int MOST_KNOTS = 64;
    private static final int MOST_OPEN = 8;
    private static final int MOST_UNDONE = 20;
    private static final int MOST_SEEN = 24;
    private static final int CELLS = MOST_PEOPLE * MOST_THINGS;
    private static final int CROWDS = 1 << MOST_PEOPLE;
    private static final int ALL_THINGS = (1 << MOST_THINGS) - 1;

    private static final int BENDINGS = 10;
    private static final int MOST_GONE = 200;
    private static final int LAST_DAY = 9800;
    private static final int LOOK_AHEAD = 199;
    private static final int HUSH_DAYS = 60;
    private static final int SEEN_DAYS = 60;
    private static final int ASK_DAYS = 20;
    private static final int MOST_HATS = 99;
    private static final int HATS_ROUND = 100;
    private static final int MOST_PRINT = 999;
    private static final int MOST_SPACE = 99999;
    private static final int MOST_SILENT = 6;
    private static final int MOST_DRAWN_DAYS = 99;
    private static final int DRAWN_TIMES = 10;

    private static final int NEAR_SET = 0;
    private static final int FAR_SET = 1;
    private static final int TALK_SET = 2;
    private static final int SEED_SET = 3;
    private static final int[] SETTING_AT_FIRST = {1, 9, 100, 0};
    private static final int[] SETTING_MOST = {99, 99, 100, 99999};

    private static final int CHANGE_LAW = 0;
    private static final int FITS_LAW = 1;
    private static final int PRINT_LAW = 2;
    private static final int LAWS = 3;
    private static final int MOST_NUMBER_OF_LAW = 9999;
    private static final long MOST_VALUE = 1000000000000L;
    private static final long ERROR = Long.MIN_VALUE;

    private static final int BAD_TOKEN = 1;
    private static final int TOO_MUCH = 2;
    private static final int TOLD_ALREADY = 3;
    private static final int NOT_TOLD = 4;
    private static final int TO_ONESELF = 5;

    /** The words of the language; a word's place in this row is its kind of token. */
    private static final String LANGUAGE =
            "man thing sees way tell near far talk seed law change fits print hats bent old apart many told day not and or ";
    private static final int WORDS = 23;
    private static final int LETTERS = 6;

    private static final int MAN = 0;
    private static final int THING = 1;
    private static final int SEES = 2;
    private static final int WAY = 3;
    private static final int TELL = 4;
    private static final int NEAR = 5;
    private static final int SEED = 8;
    private static final int LAW = 9;
    private static final int CHANGE = 10;
    private static final int PRINT = 12;
    private static final int HATS = 13;
    private static final int DAY = 19;
    private static final int NOT = 20;
    private static final int AND = 21;
    private static final int OR = 22;
    private static final int WORD = 23;
    private static final int NUMBER = 24;
    private static final int OPEN = 25;
    private static final int CLOSE = 26;
    private static final int LINE_END = 27;
    private static final int PLUS = 28;
    private static final int MINUS = 29;
    private static final int TIMES = 30;
    private static final int DIVIDED = 31;
    private static final int BELOW = 32;
    private static final int AT_MOST = 33;
    private static final int EQUAL = 34;
    private static final int UNLIKE = 35;
    private static final int AT_LEAST = 36;
    private static final int ABOVE = 37;
    private static final int WRONG = 38;
    private static final int TEXT_END = 39;

    private final byte[] tape;
    private int taped;
    private final Reader reader;
    private Story story;
    private Story spare;
    private final World now;
    private final World image;
    private final World trial;
    private boolean imageKept;
    private final Course course;
    private final Deeds deeds;
    private final Seen sights;
    private final int[] suitors;
    private final int[] partners;
    private final int[] mostMatched;
    private final int[] answers;

    public SecondTelling() {
        tape = new byte[MOST_BYTES];
        taped = 0;
        story = new Story();
        spare = new Story();
        reader = new Reader(spare);
        now = new World();
        image = new World();
        trial = new World();
        imageKept = false;
        course = new Course(story, now);
        deeds = new Deeds();
        sights = new Seen();
        suitors = new int[MOST_THINGS];
        partners = new int[MOST_THINGS];
        mostMatched = new int[(MOST_THINGS + 1) * CROWDS];
        answers = new int[BENDINGS * MOST_PEOPLE];
        now.restart(story.settings[SEED_SET]);
    }

    public int feed(int a, int b, int c, int d, int e) {
        if (taped + 20 > MOST_BYTES) {
            return NONE;
        }
        putOnTape(a);
        putOnTape(b);
        putOnTape(c);
        putOnTape(d);
        putOnTape(e);
        return taped;
    }

    private void putOnTape(int four) {
        for (int shift = 24; shift >= 0 && taped < tape.length; shift -= 8) {
            tape[taped] = (byte) (four >> shift);
            taped++;
        }
    }

    public int text(int n) {
        if (n < 0 || n > taped) {
            return NOT_SO;
        }
        taped = 0;
        int lines = reader.readStory(tape, n, spare);
        if (lines < 0) {
            return NONE;
        }
        Story read = spare;
        spare = story;
        story = read;
        now.restart(story.settings[SEED_SET]);
        imageKept = false;
        deeds.size = 0;
        sights.size = 0;
        sights.knownBy = NONE;
        return lines;
    }

    public int fault(int what) {
        if (what == 0) {
            return reader.fault;
        }
        if (what == 1) {
            return reader.place;
        }
        return NONE;
    }

    public int named(int what, int letters) {
        if (what == 0) {
            return Story.placeOf(letters, story.manNames, story.people);
        }
        if (what == 1) {
            return Story.placeOf(letters, story.thingNames, story.things);
        }
        return NONE;
    }

    public int thing(int thing, int what) throws IndexOutOfBoundsException, NoSuchElementException {
        if (!isThing(thing)) {
            throw new IndexOutOfBoundsException("no such thing");
        }
        switch (what) {
            case 0:
                return story.thingDays[thing];
            case 1:
                return story.thingHats[thing];
            case 2:
                return now.newsDays[thing];
            case 3:
                return now.holders(thing);
            case 4:
                return now.printed[thing];
            default:
                throw new NoSuchElementException("no such what");
        }
    }

    public int has(int man, int thing, int what) {
        if (!isMan(man) || !isThing(thing) || what < 0 || what > 4) {
            return NONE;
        }
        int cell = World.cell(man, thing);
        if (what == 4) {
            return (now.printed[thing] >> man & 1) == 1 ? now.printedHats[cell] : NOT_SO;
        }
        if (!now.holds(man, thing)) {
            return NOT_SO;
        }
        switch (what) {
            case 0:
                return now.hats[cell];
            case 1:
                return now.since[cell];
            case 2:
                return now.from[cell];
            default:
                return now.chain(man, thing);
        }
    }

    public int bent(int man) {
        return isMan(man) ? story.manBents[man] : NONE;
    }

    public long law(int what, int thing, int one, int other) {
        if (what < 0 || what >= LAWS || !isThing(thing) || !isMan(one) || !now.holds(one, thing)) {
            return ERROR;
        }
        course.asItGoes(story, now);
        if (what == CHANGE_LAW) {
            course.setFacts(one, thing, 0);
            return course.worth(CHANGE_LAW);
        }
        if (!isMan(other) || one == other || !now.holds(other, thing)) {
            return ERROR;
        }
        course.setFacts(other, thing, now.apart(other, thing, now.hats[World.cell(one, thing)]));
        return course.worth(what);
    }

    public int hear(int man, int from, int thing) {
        if (!areTwo(man, from) || !isThing(thing)) {
            return NONE;
        }
        if (now.holds(man, thing) || !now.holds(from, thing)) {
            return NOT_SO;
        }
        deeds.note(now, man, thing);
        course.asItGoes(story, now);
        course.handOver(from, man, thing);
        return now.hats[World.cell(man, thing)];
    }

    public int tell(int man, int thing) {
        if (!isMan(man) || !isThing(thing)) {
            return NONE;
        }
        if (!now.mayPrint(man, thing)) {
            return NOT_SO;
        }
        deeds.note(now, man, thing);
        course.asItGoes(story, now);
        return course.printTelling(man, thing) ? 1 : 0;
    }

    public boolean forget(int man, int thing) {
        if (!isMan(man) || !isThing(thing) || !now.holds(man, thing)) {
            return false;
        }
        deeds.note(now, man, thing);
        now.hold[man] &= ~(1 << thing);
        return true;
    }

    public int go(int n) {
        if (n < 0 || n > MOST_GONE || now.day + n > LAST_DAY) {
            return NONE;
        }
        course.byNumbers(story, now);
        for (int i = 0; i < n; i++) {
            course.aDay();
        }
        if (n > 0) {
            deeds.size = 0;
        }
        return now.day;
    }

    public int ahead(int n, int what, int i) {
        if (n < 0 || n > MOST_GONE || what < 0 || what > 3 || (what == 1 && !isThing(i))) {
            return NONE;
        }
        tryFromNow();
        for (int d = 0; d < n; d++) {
            course.aDay();
        }
        switch (what) {
            case 0:
                return trial.newsCount();
            case 1:
                return Integer.bitCount(trial.holders(i));
            case 2:
                return trial.space - now.space;
            default:
                return trial.idle - now.idle;
        }
    }

    public int when(int thing) {
        if (!isThing(thing)) {
            return NONE;
        }
        tryFromNow();
        course.things = 1 << thing;
        for (int d = 0; d <= LOOK_AHEAD; d++) {
            if (trial.newsDays[thing] >= 0) {
                return d;
            }
            course.aDay();
        }
        return NOT_SO;
    }

    public int hears(int man, int thing) {
        if (!isMan(man) || !isThing(thing)) {
            return NONE;
        }
        tryFromNow();
        course.things = 1 << thing;
        for (int d = 0; d <= LOOK_AHEAD; d++) {
            if (trial.holds(man, thing)) {
                return d;
            }
            course.aDay();
        }
        return NOT_SO;
    }

    public int joined(int one, int other, int thing) {
        if (!areTwo(one, other) || !isThing(thing)) {
            return NONE;
        }
        if (!now.holds(one, thing) || !now.holds(other, thing)) {
            return NOT_SO;
        }
        return (now.chain(one, thing) & now.chain(other, thing)) != 0 ? 1 : 0;
    }

    public int pairs(int thing) {
        if (!isThing(thing)) {
            return NONE;
        }
        int fitting = 0;
        for (int later = 1; later < story.people; later++) {
            for (int early = 0; early < later; early++) {
                if (now.holds(early, thing) && now.holds(later, thing) && wouldFit(early, later, thing)) {
                    fitting++;
                }
            }
        }
        return fitting;
    }

    public int reach(int man) {
        return isMan(man) ? story.reachOf(man) : NONE;
    }

    public int hush(int thing) {
        if (!isThing(thing)) {
            return NONE;
        }
        if (now.newsDays[thing] >= 0) {
            return NOT_SO;
        }
        int all = (1 << story.people) - 1;
        for (int fewest = 0; fewest < story.people; fewest++) {
            for (int men = 0; men < all; men++) {
                if (Integer.bitCount(men) == fewest && staysNoNews(thing, men)) {
                    return men;
                }
            }
        }
        return all;
    }

    private boolean staysNoNews(int thing, int hushed) {
        tryFromNow();
        course.things = 1 << thing;
        course.hushedWays = hushed;
        course.hushedTells = hushed;
        int last = story.lastTell(thing);
        for (int d = 0; d < HUSH_DAYS && trial.day <= last && trial.newsDays[thing] < 0; d++) {
            course.aDay();
        }
        return trial.newsDays[thing] < 0;
    }

    public int spread() {
        int all = (1 << story.people) - 1;
        int best = all;
        for (int men = 0; men < all; men++) {
            if (Integer.bitCount(men) < Integer.bitCount(best) && reachOfAll(men) == all) {
                best = men;
            }
        }
        return best;
    }

    private int reachOfAll(int men) {
        int reached = 0;
        for (int man = 0; man < story.people; man++) {
            if ((men >> man & 1) == 1) {
                reached |= story.reachOf(man);
            }
        }
        return reached;
    }

    public int lone() {
        int bits = 0;
        for (int thing = 0; thing < story.things; thing++) {
            if (Integer.bitCount(now.holders(thing)) == 1) {
                bits |= 1 << thing;
            }
        }
        return bits;
    }

    public int match(int what) {
        if (what < 0 || what > MOST_THINGS) {
            return NONE;
        }
        findSuitors();
        countMatches();
        int matched = choosePartners();
        return what == MOST_THINGS ? matched : partners[what];
    }

    private void findSuitors() {
        course.asItGoes(story, now);
        for (int thing = 0; thing < MOST_THINGS; thing++) {
            suitors[thing] = 0;
            for (int man = 0; man < story.people && thing < story.things && now.newsDays[thing] < 0; man++) {
                if (now.mayPrint(man, thing) && course.firstFitting(man, thing) >= 0) {
                    suitors[thing] |= 1 << man;
                }
            }
        }
    }

    /** How many of the THINGS from one on can have a PERSON, by who is taken: so the first choice can be read off. */
    private void countMatches() {
        for (int taken = 0; taken < CROWDS; taken++) {
            mostMatched[MOST_THINGS * CROWDS + taken] = 0;
        }
        for (int thing = MOST_THINGS - 1; thing >= 0; thing--) {
            for (int taken = 0; taken < CROWDS; taken++) {
                int most = mostMatched[(thing + 1) * CROWDS + taken];
                int free = suitors[thing] & ~taken;
                for (int man = 0; man < MOST_PEOPLE && free != 0; man++) {
                    if ((free >> man & 1) == 1) {
                        int with = 1 + mostMatched[(thing + 1) * CROWDS + (taken | 1 << man)];
                        most = with > most ? with : most;
                    }
                }
                mostMatched[thing * CROWDS + taken] = most;
            }
        }
    }

    private int choosePartners() {
        int taken = 0;
        int matched = 0;
        for (int thing = 0; thing < MOST_THINGS; thing++) {
            int free = suitors[thing] & ~taken;
            int due = mostMatched[thing * CROWDS + taken];
            partners[thing] = NOT_SO;
            for (int man = 0; man < MOST_PEOPLE && partners[thing] < 0; man++) {
                if ((free >> man & 1) == 1 && 1 + mostMatched[(thing + 1) * CROWDS + (taken | 1 << man)] == due) {
                    partners[thing] = man;
                }
            }
            if (partners[thing] >= 0) {
                taken |= 1 << partners[thing];
                matched++;
            }
        }
        return matched;
    }

    public int rests(int one, int other, int thing) {
        if (!areTwo(one, other) || !isThing(thing)) {
            return NONE;
        }
        if (!now.holds(one, thing) || !now.holds(other, thing)) {
            return NOT_SO;
        }
        boolean fit = wouldFit(one, other, thing);
        int found = 0;
        for (int play = 0; play < 4; play++) {
            if (isRest(play >> 1, play & 1, fit)) {
                found++;
            }
        }
        return found;
    }

    public int rest(int one, int other, int thing, int k) {
        if (!areTwo(one, other) || !isThing(thing) || k < 0) {
            return NONE;
        }
        if (!now.holds(one, thing) || !now.holds(other, thing)) {
            return NOT_SO;
        }
        boolean fit = wouldFit(one, other, thing);
        int left = k;
        for (int play = 0; play < 4; play++) {
            if (isRest(play >> 1, play & 1, fit)) {
                if (left == 0) {
                    return 10 * (play >> 1) + (play & 1);
                }
                left--;
            }
        }
        return NOT_SO;
    }

    private static boolean isRest(int one, int other, boolean fit) {
        return gain(one, other, fit) >= gain(1 - one, other, fit)
                && gain(other, one, fit) >= gain(1 - other, one, fit);
    }

    private static int gain(int mine, int others, boolean fit) {
        if (mine == 0 && others == 0) {
            return fit ? 3 : 0;
        }
        if (mine == 0) {
            return 1;
        }
        return others == 0 ? 2 : 0;
    }

    /** Whether the TELLINGS two would make now FIT; the greater number's is the later one. */
    private boolean wouldFit(int one, int other, int thing) {
        int early = one < other ? one : other;
        int later = one < other ? other : one;
        course.asItGoes(story, now);
        return course.fits(later, thing, now.hats[World.cell(early, thing)], now.chain(early, thing));
    }

    public long silent(int n, int what) {
        if (n < 0 || n > MOST_SILENT || what < 0 || what > 1) {
            return NONE;
        }
        int quiet = 100 - story.settings[TALK_SET];
        int common = commonDivisor(quiet);
        long above = 1;
        long below = 1;
        for (int i = 0; i < n; i++) {
            above *= quiet / common;
            below *= 100 / common;
        }
        return what == 0 ? above : below;
    }

    /** The greatest number that divides both it and 100; never below 1, so that one may divide by it. */
    private static int commonDivisor(int number) {
        for (int by = 100; by > 1; by--) {
            if (number % by == 0 && 100 % by == 0) {
                return by;
            }
        }
        return 1;
    }

    public int see(int days, int man, int thing, int hats, boolean is) {
        if (days < 1 || days > SEEN_DAYS || !isMan(man) || !isThing(thing) || hats < 0 || hats > MOST_HATS) {
            return NONE;
        }
        return sights.addSight(days, man, thing, hats, is);
    }

    public int strike(int seen) {
        return sights.addStrike(seen);
    }

    public boolean known(int n) {
        if (n < NONE || n > sights.size) {
            return false;
        }
        sights.knownBy = n;
        return true;
    }

    public int bents(int man) {
        return isMan(man) ? bendingsLeft(man) : NONE;
    }

    private int bendingsLeft(int man) {
        sights.sift();
        int last = sights.lastDay();
        int left = 0;
        for (int bending = 0; bending < BENDINGS; bending++) {
            tryFromText(man, bending);
            course.things = sights.thingsKnown();
            boolean so = true;
            for (int d = 1; d <= last && so; d++) {
                course.aDay();
                so = sights.areSo(d, trial);
            }
            if (so) {
                left |= 1 << bending;
            }
        }
        return left;
    }

    public int ask(int man, int thing, int what) {
        if (!isMan(man) || !isThing(thing) || what < 0 || what > 1) {
            return NONE;
        }
        int left = bendingsLeft(man);
        workOutAnswers(man, thing, left);
        int best = 0;
        int fewest = worstLeft(0, left);
        for (int whom = 1; whom < story.people; whom++) {
            int worst = worstLeft(whom, left);
            if (worst < fewest) {
                fewest = worst;
                best = whom;
            }
        }
        return what == 0 ? best : fewest;
    }

    private void workOutAnswers(int man, int thing, int bendings) {
        for (int bending = 0; bending < BENDINGS; bending++) {
            if ((bendings >> bending & 1) == 1) {
                tryFromText(man, bending);
                course.things = 1 << thing;
                for (int d = 0; d < ASK_DAYS; d++) {
                    course.aDay();
                }
                for (int whom = 0; whom < story.people; whom++) {
                    boolean holds = trial.holds(whom, thing);
                    answers[bending * MOST_PEOPLE + whom] = holds ? trial.hats[World.cell(whom, thing)] : NOT_SO;
                }
            }
        }
    }

    private int worstLeft(int whom, int bendings) {
        int worst = 0;
        for (int one = 0; one < BENDINGS; one++) {
            int alike = 0;
            for (int other = 0; other < BENDINGS && (bendings >> one & 1) == 1; other++) {
                boolean same = answers[one * MOST_PEOPLE + whom] == answers[other * MOST_PEOPLE + whom];
                if ((bendings >> other & 1) == 1 && same) {
                    alike++;
                }
            }
            worst = alike > worst ? alike : worst;
        }
        return worst;
    }

    public int chance(int seed, int n, int man, int thing) {
        if (seed < 0 || n < 1 || n > MOST_DRAWN_DAYS || !isMan(man) || !isThing(thing)) {
            return NONE;
        }
        long number = seed;
        int times = 0;
        for (int time = 0; time < DRAWN_TIMES; time++) {
            trial.becomeLike(now);
            trial.number = number;
            course.byNumbers(story, trial);
            for (int d = 0; d < n; d++) {
                course.aDay();
            }
            number = trial.number;
            if (trial.holds(man, thing)) {
                times++;
            }
        }
        return times;
    }

    public int tried(int what, int i, int n) {
        boolean such = what == 2 ? isMan(i) : i == 0;
        if (what < 0 || what > 4 || !such || n < 0 || n > MOST_GONE) {
            return NONE;
        }
        tryFromNow();
        course.bendCourse(what, i);
        for (int d = 0; d < n; d++) {
            course.aDay();
        }
        return trial.newsCount() - now.newsCount();
    }

    public int undo() {
        if (deeds.size == 0) {
            return NONE;
        }
        deeds.takeBack(now);
        return deeds.size;
    }

    public int keep() {
        image.becomeLike(now);
        imageKept = true;
        return now.day;
    }

    public int back() {
        if (!imageKept) {
            return NONE;
        }
        now.becomeLike(image);
        deeds.size = 0;
        return now.day;
    }

    public int count(int what) {
        switch (what) {
            case 0:
                return story.people;
            case 1:
                return story.things;
            case 2:
                return story.ways;
            case 3:
                return story.tells;
            case 4:
                return story.laws.knots;
            case 5:
                return now.day;
            case 6:
                return now.newsCount();
            case 7:
                return now.heldCount();
            case 8:
                return now.printedCount();
            case 9:
                return now.space;
            case 10:
                return now.idle;
            case 11:
                return sights.size;
            case 12:
                return sights.knownCount();
            case 13:
                return deeds.size;
            default:
                return NONE;
        }
    }

    private boolean isMan(int man) {
        return man >= 0 && man < story.people;
    }

    private boolean isThing(int thing) {
        return thing >= 0 && thing < story.things;
    }

    private boolean areTwo(int one, int other) {
        return isMan(one) && isMan(other) && one != other;
    }

    private void tryFromNow() {
        trial.becomeLike(now);
        course.asItGoes(story, trial);
    }

    private void tryFromText(int man, int bending) {
        trial.restart(story.settings[SEED_SET]);
        course.asItGoes(story, trial);
        course.bendings[man] = bending;
    }

    /** What the TEXT tells; nothing of it changes as DAYS go by. */
    private static final class Story {
        int people;
        final int[] manNames;
        final int[] manBents;
        int things;
        final int[] thingNames;
        final int[] thingDays;
        final int[] thingHats;
        final int[] seers;
        int ways;
        final int[] wayFroms;
        final int[] wayTos;
        final int[] wayDays;
        int tells;
        final int[] tellMen;
        final int[] tellThings;
        final int[] tellDays;
        final int[] settings;
        final Laws laws;

        Story() {
            manNames = new int[MOST_PEOPLE];
            manBents = new int[MOST_PEOPLE];
            thingNames = new int[MOST_THINGS];
            thingDays = new int[MOST_THINGS];
            thingHats = new int[MOST_THINGS];
            seers = new int[MOST_THINGS];
            wayFroms = new int[MOST_WAYS];
            wayTos = new int[MOST_WAYS];
            wayDays = new int[MOST_WAYS];
            tellMen = new int[MOST_TELLS];
            tellThings = new int[MOST_TELLS];
            tellDays = new int[MOST_TELLS];
            settings = new int[SETTING_AT_FIRST.length];
            laws = new Laws();
            System.arraycopy(SETTING_AT_FIRST, 0, settings, 0, settings.length);
        }

        void empty() {
            people = 0;
            things = 0;
            ways = 0;
            tells = 0;
            System.arraycopy(SETTING_AT_FIRST, 0, settings, 0, settings.length);
            laws.empty();
        }

        static int placeOf(int name, int[] names, int size) {
            for (int i = 0; i < size && i < names.length; i++) {
                if (names[i] == name) {
                    return i;
                }
            }
            return NONE;
        }

        /** Behind this DAY the THING is no NEWS any more unless it is already; NONE: nobody will tell it. */
        int lastTell(int thing) {
            int last = NONE;
            for (int i = 0; i < tells; i++) {
                if (tellThings[i] == thing && tellDays[i] > last) {
                    last = tellDays[i];
                }
            }
            return last;
        }

        int reachOf(int man) {
            int reached = 1 << man;
            // each round that finds somebody finds one at least: as many rounds as PEOPLE are enough
            for (int round = 0; round < people; round++) {
                for (int way = 0; way < ways; way++) {
                    if ((reached >> wayFroms[way] & 1) == 1) {
                        reached |= 1 << wayTos[way];
                    }
                }
            }
            return reached;
        }
    }

    /** The laws' E, each as a row of knots in which a sign stands behind what it joins. */
    private static final class Laws {
        int knots;
        int placed;
        final int[] kinds;
        final int[] values;
        final int[] starts;
        final int[] ends;

        Laws() {
            kinds = new int[MOST_KNOTS];
            values = new int[MOST_KNOTS];
            starts = new int[LAWS];
            ends = new int[LAWS];
        }

        void empty() {
            knots = 0;
            placed = 0;
            for (int rule = 0; rule < LAWS; rule++) {
                starts[rule] = 0;
                ends[rule] = 0;
            }
        }

        boolean isTold(int rule) {
            return ends[rule] > starts[rule];
        }

        void place(int kind, int value) {
            if (placed < MOST_KNOTS) {
                kinds[placed] = kind;
                values[placed] = value;
                placed++;
            }
        }
    }

    /** The TOKENS of a text, one at a time. */
    private static final class Tokens {
        private final int[] language;
        private byte[] bytes;
        private int size;
        private int at;
        int kind;
        int value;
        int place;

        Tokens() {
            language = new int[WORDS];
            bytes = new byte[0];
            int word = 0;
            int start = 0;
            for (int i = 0; i < LANGUAGE.length() && word < WORDS; i++) {
                if (LANGUAGE.charAt(i) == ' ') {
                    language[word] <<= 5 * (LETTERS - (i - start));
                    start = i + 1;
                    word++;
                } else {
                    language[word] = language[word] << 5 | LANGUAGE.charAt(i) - 'a' + 1;
                }
            }
        }

        void begin(byte[] bytes, int size) {
            this.bytes = bytes;
            this.size = size < bytes.length ? size : bytes.length;
            at = 0;
        }

        void next() {
            while (at < size && (bytes[at] == ' ' || bytes[at] == '\n')) {
                at++;
            }
            place = at;
            if (at >= size) {
                kind = TEXT_END;
            } else if (isLetter(bytes[at])) {
                takeWord();
            } else if (isDigit(bytes[at])) {
                takeNumber();
            } else {
                takeSign();
            }
        }

        private void takeWord() {
            int code = 0;
            while (at < size && isLetter(bytes[at])) {
                if (at - place < LETTERS) {
                    code = code << 5 | bytes[at] - 'a' + 1;
                }
                at++;
            }
            int letters = at - place;
            if (letters > LETTERS) {
                kind = WRONG;
                return;
            }
            value = code << 5 * (LETTERS - letters);
            int word = Story.placeOf(value, language, WORDS);
            kind = word >= 0 ? word : WORD;
        }

        private void takeNumber() {
            value = 0;
            while (at < size && isDigit(bytes[at])) {
                // stays far above every bound of the language, however many digits come
                if (value < 1000000) {
                    value = value * 10 + bytes[at] - '0';
                }
                at++;
            }
            kind = NUMBER;
        }

        private void takeSign() {
            int sign = bytes[at];
            at++;
            if (sign == '<' && follows('=')) {
                kind = AT_MOST;
            } else if (sign == '<' && follows('>')) {
                kind = UNLIKE;
            } else if (sign == '>' && follows('=')) {
                kind = AT_LEAST;
            } else {
                kind = signAlone(sign);
            }
        }

        private boolean follows(int sign) {
            if (at < size && bytes[at] == sign) {
                at++;
                return true;
            }
            return false;
        }

        private static int signAlone(int sign) {
            switch (sign) {
                case '(':
                    return OPEN;
                case ')':
                    return CLOSE;
                case ';':
                    return LINE_END;
                case '+':
                    return PLUS;
                case '-':
                    return MINUS;
                case '*':
                    return TIMES;
                case '/':
                    return DIVIDED;
                case '<':
                    return BELOW;
                case '=':
                    return EQUAL;
                case '>':
                    return ABOVE;
                default:
                    return WRONG;
            }
        }

        private static boolean isLetter(int sign) {
            return sign >= 'a' && sign <= 'z';
        }

        private static boolean isDigit(int sign) {
            return sign >= '0' && sign <= '9';
        }
    }

    /** Reads LINES; each method answers the FAULT at the TOKEN at hand, 0 if there is none. */
    private static final class Reader {
        private final Tokens tokens;
        private final LawReader lawReader;
        private Story story;
        private int sees;
        private int settingsTold;
        private int namedAt;
        int fault;
        int place;

        Reader(Story story) {
            tokens = new Tokens();
            lawReader = new LawReader(tokens, story.laws);
            this.story = story;
            fault = 0;
            place = NONE;
        }

        int readStory(byte[] bytes, int size, Story into) {
            story = into;
            story.empty();
            sees = 0;
            settingsTold = 0;
            tokens.begin(bytes, size);
            tokens.next();
            fault = 0;
            int lines = 0;
            while (lines < MOST_BYTES && fault == 0 && tokens.kind != TEXT_END) {
                fault = readLine();
                if (fault == 0) {
                    // behind a FAULT no TOKEN is taken: its place is the one of the TOKEN at hand
                    tokens.next();
                    lines++;
                }
            }
            place = fault == 0 ? NONE : tokens.place;
            return fault == 0 ? lines : NONE;
        }

        private int readLine() {
            int word = tokens.kind;
            if (word >= NEAR && word <= SEED) {
                return readSetting(word - NEAR);
            }
            switch (word) {
                case MAN:
                    return readMan();
                case THING:
                    return readThing();
                case SEES:
                    return readSees();
                case WAY:
                    return readWay();
                case TELL:
                    return readTell();
                case LAW:
                    return readLaw();
                default:
                    return BAD_TOKEN;
            }
        }

        private int readMan() {
            int i = story.people;
            if (i >= MOST_PEOPLE) {
                return TOO_MUCH;
            }
            int found = takeNewName(story.manNames, i);
            if (found == 0) {
                story.manNames[i] = tokens.value;
                found = takeNumber(0, 9);
            }
            if (found == 0) {
                story.manBents[i] = tokens.value;
                story.people++;
                found = takeLineEnd();
            }
            return found;
        }

        private int readThing() {
            int i = story.things;
            if (i >= MOST_THINGS) {
                return TOO_MUCH;
            }
            int found = takeNewName(story.thingNames, i);
            if (found == 0) {
                story.thingNames[i] = tokens.value;
                found = takeNumber(0, 99);
            }
            if (found == 0) {
                story.thingDays[i] = tokens.value;
                found = takeNumber(0, MOST_HATS);
            }
            if (found == 0) {
                story.thingHats[i] = tokens.value;
                story.seers[i] = 0;
                story.things++;
                found = takeLineEnd();
            }
            return found;
        }

        private int readSees() {
            if (sees >= MOST_SEES) {
                return TOO_MUCH;
            }
            int found = takeOldName(story.manNames, story.people);
            if (found != 0) {
                return found;
            }
            int seer = 1 << namedAt;
            found = takeOldName(story.thingNames, story.things);
            if (found != 0) {
                return found;
            }
            if ((story.seers[namedAt] & seer) != 0) {
                return TOLD_ALREADY;
            }
            story.seers[namedAt] |= seer;
            sees++;
            return takeLineEnd();
        }

        private int readWay() {
            int i = story.ways;
            if (i >= MOST_WAYS) {
                return TOO_MUCH;
            }
            int found = takeOldName(story.manNames, story.people);
            if (found == 0) {
                story.wayFroms[i] = namedAt;
                found = takeOldName(story.manNames, story.people);
            }
            if (found == 0) {
                story.wayTos[i] = namedAt;
                found = story.wayTos[i] == story.wayFroms[i] ? TO_ONESELF : takeNumber(1, 9);
            }
            if (found == 0) {
                story.wayDays[i] = tokens.value;
                story.ways++;
                found = takeLineEnd();
            }
            return found;
        }

        private int readTell() {
            int i = story.tells;
            if (i >= MOST_TELLS) {
                return TOO_MUCH;
            }
            int found = takeOldName(story.manNames, story.people);
            if (found == 0) {
                story.tellMen[i] = namedAt;
                found = takeOldName(story.thingNames, story.things);
            }
            if (found == 0) {
                story.tellThings[i] = namedAt;
                found = takeNumber(0, 99);
            }
            if (found == 0) {
                story.tellDays[i] = tokens.value;
                story.tells++;
                found = takeLineEnd();
            }
            return found;
        }

        private int readSetting(int setting) {
            if (setting < 0 || setting >= SETTING_MOST.length || (settingsTold >> setting & 1) == 1) {
                return TOLD_ALREADY;
            }
            settingsTold |= 1 << setting;
            int found = takeNumber(0, SETTING_MOST[setting]);
            if (found == 0) {
                story.settings[setting] = tokens.value;
                found = takeLineEnd();
            }
            return found;
        }

        private int readLaw() {
            tokens.next();
            if (tokens.kind < CHANGE || tokens.kind > PRINT) {
                return BAD_TOKEN;
            }
            int rule = tokens.kind - CHANGE;
            if (story.laws.isTold(rule)) {
                return TOLD_ALREADY;
            }
            return lawReader.readLaw(story.laws, rule);
        }

        private int takeNewName(int[] names, int size) {
            tokens.next();
            if (tokens.kind != WORD) {
                return BAD_TOKEN;
            }
            return Story.placeOf(tokens.value, names, size) >= 0 ? TOLD_ALREADY : 0;
        }

        private int takeOldName(int[] names, int size) {
            tokens.next();
            if (tokens.kind != WORD) {
                return BAD_TOKEN;
            }
            int place = Story.placeOf(tokens.value, names, size);
            if (place < 0) {
                return NOT_TOLD;
            }
            namedAt = place;
            return 0;
        }

        private int takeNumber(int least, int most) {
            tokens.next();
            if (tokens.kind != NUMBER) {
                return BAD_TOKEN;
            }
            return tokens.value < least || tokens.value > most ? TOO_MUCH : 0;
        }

        private int takeLineEnd() {
            tokens.next();
            return tokens.kind == LINE_END ? 0 : BAD_TOKEN;
        }
    }

    /** Reads an E up to its ';' without recursion: signs wait till what they join is complete. */
    private static final class LawReader {
        private final Tokens tokens;
        private final int[] waiting;
        private int waits;
        private int open;
        private Laws laws;

        LawReader(Tokens tokens, Laws laws) {
            this.tokens = tokens;
            this.laws = laws;
            waiting = new int[MOST_KNOTS + MOST_OPEN];
        }

        int readLaw(Laws into, int rule) {
            laws = into;
            laws.starts[rule] = laws.placed;
            laws.ends[rule] = laws.placed;
            waits = 0;
            open = 0;
            boolean valueDue = true;
            // each round takes a TOKEN of one byte at least
            for (int i = 0; i <= MOST_BYTES; i++) {
                tokens.next();
                if (!valueDue && tokens.kind == LINE_END && open == 0) {
                    settle(1);
                    laws.ends[rule] = laws.placed;
                    return 0;
                }
                int found = valueDue ? takeValue() : takeBehindValue();
                if (found != 0) {
                    return found;
                }
                valueDue = rank(tokens.kind) > 0 || tokens.kind == OPEN;
            }
            return BAD_TOKEN;
        }

        private int takeValue() {
            int kind = tokens.kind;
            if (kind == NUMBER) {
                return tokens.value > MOST_NUMBER_OF_LAW ? TOO_MUCH : placeValue(NUMBER, tokens.value);
            }
            if (kind >= HATS && kind <= DAY) {
                return placeValue(HATS, kind - HATS);
            }
            if (kind == NOT && rank(lastWaiting()) <= rank(NOT)) {
                return waitAsKnot(NOT);
            }
            if (kind == OPEN) {
                if (open >= MOST_OPEN) {
                    return TOO_MUCH;
                }
                open++;
                push(OPEN);
                return 0;
            }
            return BAD_TOKEN;
        }

        private int takeBehindValue() {
            int kind = tokens.kind;
            if (kind == CLOSE && open > 0) {
                settle(1);
                waits = waits > 0 ? waits - 1 : 0;
                open--;
                return 0;
            }
            if (rank(kind) == 0 || kind == NOT) {
                return BAD_TOKEN;
            }
            if (rank(kind) == rank(EQUAL)) {
                settle(rank(EQUAL) + 1);
                if (rank(lastWaiting()) == rank(EQUAL)) {
                    return BAD_TOKEN;
                }
            } else {
                settle(rank(kind));
            }
            return waitAsKnot(kind);
        }

        private int placeValue(int kind, int value) {
            if (laws.knots >= MOST_KNOTS) {
                return TOO_MUCH;
            }
            laws.knots++;
            laws.place(kind, value);
            return 0;
        }

        private int waitAsKnot(int kind) {
            if (laws.knots >= MOST_KNOTS) {
                return TOO_MUCH;
            }
            laws.knots++;
            push(kind);
            return 0;
        }

        private void push(int kind) {
            if (waits < waiting.length) {
                waiting[waits] = kind;
                waits++;
            }
        }

        private int lastWaiting() {
            return waits > 0 ? waiting[waits - 1] : OPEN;
        }

        /** Signs of this rank and above wait no longer; an open '(' holds back those ahead of it. */
        private void settle(int least) {
            while (waits > 0 && rank(waiting[waits - 1]) >= least) {
                waits--;
                laws.place(waiting[waits], 0);
            }
        }

        private static int rank(int kind) {
            switch (kind) {
                case OR:
                    return 1;
                case AND:
                    return 2;
                case NOT:
                    return 3;
                case BELOW:
                case AT_MOST:
                case EQUAL:
                case UNLIKE:
                case AT_LEAST:
                case ABOVE:
                    return 4;
                case PLUS:
                case MINUS:
                    return 5;
                case TIMES:
                case DIVIDED:
                    return 6;
                default:
                    return 0;
            }
        }
    }

    /** Who HAS what, what is PRINTED and NEWS, on a DAY. */
    private static final class World {
        int day;
        long number;
        int space;
        int idle;
        final int[] newsDays;
        final int[] hold;
        final int[] printed;
        final int[] hats;
        final int[] since;
        final int[] from;
        final int[] printedHats;
        final int[] printedChains;

        World() {
            newsDays = new int[MOST_THINGS];
            hold = new int[MOST_PEOPLE];
            printed = new int[MOST_THINGS];
            hats = new int[CELLS];
            since = new int[CELLS];
            from = new int[CELLS];
            printedHats = new int[CELLS];
            printedChains = new int[CELLS];
        }

        static int cell(int man, int thing) {
            return man * MOST_THINGS + thing;
        }

        void restart(int seed) {
            day = 0;
            number = seed;
            space = 0;
            idle = 0;
            for (int thing = 0; thing < MOST_THINGS; thing++) {
                newsDays[thing] = NOT_SO;
                printed[thing] = 0;
            }
            for (int man = 0; man < MOST_PEOPLE; man++) {
                hold[man] = 0;
            }
        }

        void becomeLike(World other) {
            day = other.day;
            number = other.number;
            space = other.space;
            idle = other.idle;
            System.arraycopy(other.newsDays, 0, newsDays, 0, MOST_THINGS);
            System.arraycopy(other.hold, 0, hold, 0, MOST_PEOPLE);
            System.arraycopy(other.printed, 0, printed, 0, MOST_THINGS);
            System.arraycopy(other.hats, 0, hats, 0, CELLS);
            System.arraycopy(other.since, 0, since, 0, CELLS);
            System.arraycopy(other.from, 0, from, 0, CELLS);
            System.arraycopy(other.printedHats, 0, printedHats, 0, CELLS);
            System.arraycopy(other.printedChains, 0, printedChains, 0, CELLS);
        }

        boolean holds(int man, int thing) {
            return (hold[man] >> thing & 1) == 1;
        }

        boolean mayPrint(int man, int thing) {
            return holds(man, thing) && (printed[thing] >> man & 1) == 0;
        }

        int holders(int thing) {
            int bits = 0;
            for (int man = 0; man < MOST_PEOPLE; man++) {
                bits |= (hold[man] >> thing & 1) << man;
            }
            return bits;
        }

        int chain(int man, int thing) {
            int bits = 0;
            int link = man;
            for (int i = 0; i < MOST_PEOPLE && link >= 0 && (bits >> link & 1) == 0; i++) {
                bits |= 1 << link;
                link = holds(link, thing) ? from[cell(link, thing)] : NOT_SO;
            }
            return bits;
        }

        int apart(int man, int thing, int otherHats) {
            int more = hats[cell(man, thing)] - otherHats;
            return more < 0 ? -more : more;
        }

        void gainThing(int man, int thing, int asHats, int fromWhom) {
            int cell = cell(man, thing);
            hold[man] |= 1 << thing;
            hats[cell] = asHats;
            since[cell] = day;
            from[cell] = fromWhom;
        }

        int newsCount() {
            int news = 0;
            for (int thing = 0; thing < MOST_THINGS; thing++) {
                if (newsDays[thing] >= 0) {
                    news++;
                }
            }
            return news;
        }

        int heldCount() {
            int held = 0;
            for (int man = 0; man < MOST_PEOPLE; man++) {
                held += Integer.bitCount(hold[man]);
            }
            return held;
        }

        int printedCount() {
            int tellings = 0;
            for (int thing = 0; thing < MOST_THINGS; thing++) {
                tellings += Integer.bitCount(printed[thing]);
            }
            return tellings;
        }
    }

    /** How DAYS go by in a WORLD: as the TEXT tells, or otherwise where a call asks for it. */
    private static final class Course {
        private static final int DRAWN = 0;
        private static final int ALWAYS = 1;
        private static final int NEVER = 2;

        private Story story;
        private World world;
        private int talking;
        private boolean fitsAsked;
        private final long[] facts;
        private final long[] stack;
        final int[] bendings;
        int things;
        int hushedWays;
        int hushedTells;

        Course(Story story, World world) {
            this.story = story;
            this.world = world;
            facts = new long[DAY - HATS + 1];
            stack = new long[MOST_KNOTS];
            bendings = new int[MOST_PEOPLE];
        }

        void asItGoes(Story story, World world) {
            this.story = story;
            this.world = world;
            talking = story.settings[TALK_SET] >= 50 ? ALWAYS : NEVER;
            fitsAsked = true;
            things = ALL_THINGS;
            hushedWays = 0;
            hushedTells = 0;
            System.arraycopy(story.manBents, 0, bendings, 0, MOST_PEOPLE);
        }

        void byNumbers(Story story, World world) {
            asItGoes(story, world);
            int talk = story.settings[TALK_SET];
            if (talk > 0 && talk < 100) {
                talking = DRAWN;
            }
        }

        void bendCourse(int what, int man) {
            switch (what) {
                case 0:
                    talking = ALWAYS;
                    break;
                case 1:
                    talking = NEVER;
                    break;
                case 2:
                    hushedWays = 1 << man;
                    break;
                case 3:
                    for (int i = 0; i < MOST_PEOPLE; i++) {
                        bendings[i] = 0;
                    }
                    break;
                default:
                    fitsAsked = false;
                    break;
            }
        }

        void aDay() {
            seeAll();
            passAll();
            for (int i = 0; i < story.tells; i++) {
                int man = story.tellMen[i];
                int thing = story.tellThings[i];
                boolean hushed = (hushedTells >> man & 1) == 1 || (things >> thing & 1) == 0;
                if (story.tellDays[i] == world.day && !hushed) {
                    if (world.mayPrint(man, thing)) {
                        printTelling(man, thing);
                    } else {
                        world.idle++;
                    }
                }
            }
            world.day++;
        }

        private void seeAll() {
            for (int thing = 0; thing < story.things; thing++) {
                if (story.thingDays[thing] == world.day && (things >> thing & 1) == 1) {
                    for (int man = 0; man < story.people; man++) {
                        if ((story.seers[thing] >> man & 1) == 1 && !world.holds(man, thing)) {
                            world.gainThing(man, thing, story.thingHats[thing], NOT_SO);
                        }
                    }
                }
            }
        }

        private void passAll() {
            for (int way = 0; way < story.ways; way++) {
                int teller = story.wayFroms[way];
                int hearer = story.wayTos[way];
                int tellable = (hushedWays >> teller & 1) == 1 ? 0 : world.hold[teller] & ~world.hold[hearer] & things;
                for (int thing = 0; thing < story.things && tellable != 0; thing++) {
                    if ((tellable >> thing & 1) == 1
                            && world.day - world.since[World.cell(teller, thing)] >= story.wayDays[way] && talks()) {
                        handOver(teller, hearer, thing);
                    }
                }
            }
        }

        private boolean talks() {
            if (talking != DRAWN) {
                return talking == ALWAYS;
            }
            world.number = world.number * 1103515245L + 12345L & 0x7fffffffL;
            return world.number / 65536 % 100 < story.settings[TALK_SET];
        }

        void handOver(int teller, int hearer, int thing) {
            setFacts(teller, thing, 0);
            long changed = worth(CHANGE_LAW);
            int hats;
            if (changed == ERROR) {
                hats = (world.hats[World.cell(teller, thing)] + bendings[teller]) % HATS_ROUND;
            } else {
                hats = within(changed, MOST_HATS);
            }
            world.gainThing(hearer, thing, hats, teller);
        }

        /** Whether the THING is NEWS by this TELLING. */
        boolean printTelling(int man, int thing) {
            int cell = World.cell(man, thing);
            int early = world.newsDays[thing] >= 0 ? NONE : firstFitting(man, thing);
            if (early >= 0) {
                setFacts(man, thing, world.apart(man, thing, world.printedHats[World.cell(early, thing)]));
                long more = worth(PRINT_LAW);
                int space = world.space + (more == ERROR ? 1 : within(more, MOST_PRINT));
                world.space = space > MOST_SPACE ? MOST_SPACE : space;
                world.newsDays[thing] = world.day;
            }
            world.printed[thing] |= 1 << man;
            world.printedHats[cell] = world.hats[cell];
            world.printedChains[cell] = world.chain(man, thing);
            return early >= 0;
        }

        /** The first PERSON whose PRINTED TELLING FITS the one that a man would make now. */
        int firstFitting(int man, int thing) {
            for (int early = 0; early < story.people; early++) {
                int cell = World.cell(early, thing);
                if ((world.printed[thing] >> early & 1) == 1
                        && fits(man, thing, world.printedHats[cell], world.printedChains[cell])) {
                    return early;
                }
            }
            return NONE;
        }

        boolean fits(int later, int thing, int earlyHats, int earlyChain) {
            if ((world.chain(later, thing) & earlyChain) != 0) {
                return false;
            }
            if (!fitsAsked) {
                return true;
            }
            int apart = world.apart(later, thing, earlyHats);
            setFacts(later, thing, apart);
            long fit = worth(FITS_LAW);
            if (fit == ERROR) {
                return apart >= story.settings[NEAR_SET] && apart <= story.settings[FAR_SET];
            }
            return fit != 0;
        }

        private static int within(long value, int most) {
            if (value < 0) {
                return 0;
            }
            return value > most ? most : (int) value;
        }

        /** What the NAMES stand for, in the order of the language's words. */
        void setFacts(int teller, int thing, int apart) {
            int cell = World.cell(teller, thing);
            facts[0] = world.hats[cell];
            facts[1] = bendings[teller];
            facts[2] = world.day - world.since[cell];
            facts[3] = apart;
            facts[4] = Integer.bitCount(world.holders(thing));
            facts[5] = Integer.bitCount(world.printed[thing]);
            facts[6] = world.day;
        }

        /** The law's E by the facts; ERROR also if the law isn't told. */
        long worth(int rule) {
            Laws laws = story.laws;
            int top = 0;
            for (int i = laws.starts[rule]; i < laws.ends[rule]; i++) {
                int kind = laws.kinds[i];
                long value;
                if (kind == NUMBER) {
                    value = laws.values[i];
                } else if (kind == HATS) {
                    value = facts[laws.values[i]];
                } else if (kind == NOT && top >= 1) {
                    top--;
                    value = stack[top] == 0 ? 1 : 0;
                } else if (top >= 2) {
                    top -= 2;
                    value = join(kind, stack[top], stack[top + 1]);
                } else {
                    value = ERROR;
                }
                if (value > MOST_VALUE || value < -MOST_VALUE || top >= stack.length) {
                    return ERROR;
                }
                stack[top] = value;
                top++;
            }
            return top == 1 ? stack[0] : ERROR;
        }

        private static long join(int kind, long left, long right) {
            switch (kind) {
                case PLUS:
                    return left + right;
                case MINUS:
                    return left - right;
                case TIMES:
                    // asked by division, for the product may not be a long
                    boolean small = right == 0 || MOST_VALUE / (right < 0 ? -right : right) >= (left < 0 ? -left : left);
                    return small ? left * right : ERROR;
                case DIVIDED:
                    return right == 0 ? ERROR : left / right;
                case BELOW:
                    return left < right ? 1 : 0;
                case AT_MOST:
                    return left <= right ? 1 : 0;
                case EQUAL:
                    return left == right ? 1 : 0;
                case UNLIKE:
                    return left != right ? 1 : 0;
                case AT_LEAST:
                    return left >= right ? 1 : 0;
                case ABOVE:
                    return left > right ? 1 : 0;
                case AND:
                    return left != 0 && right != 0 ? 1 : 0;
                case OR:
                    return left != 0 || right != 0 ? 1 : 0;
                default:
                    return ERROR;
            }
        }
    }

    /** What was done by call since the latest DAY: each with all that it may have changed, as it was ahead of it. */
    private static final class Deeds {
        int size;
        private final int[] men;
        private final int[] things;
        private final int[] holds;
        private final int[] hats;
        private final int[] since;
        private final int[] from;
        private final int[] printed;
        private final int[] newsDays;
        private final int[] spaces;

        Deeds() {
            size = 0;
            men = new int[MOST_UNDONE];
            things = new int[MOST_UNDONE];
            holds = new int[MOST_UNDONE];
            hats = new int[MOST_UNDONE];
            since = new int[MOST_UNDONE];
            from = new int[MOST_UNDONE];
            printed = new int[MOST_UNDONE];
            newsDays = new int[MOST_UNDONE];
            spaces = new int[MOST_UNDONE];
        }

        void note(World world, int man, int thing) {
            if (size >= MOST_UNDONE) {
                dropOldest();
            }
            int cell = World.cell(man, thing);
            men[size] = man;
            things[size] = thing;
            holds[size] = world.hold[man];
            hats[size] = world.hats[cell];
            since[size] = world.since[cell];
            from[size] = world.from[cell];
            printed[size] = world.printed[thing];
            newsDays[size] = world.newsDays[thing];
            spaces[size] = world.space;
            size++;
        }

        private void dropOldest() {
            int left = MOST_UNDONE - 1;
            System.arraycopy(men, 1, men, 0, left);
            System.arraycopy(things, 1, things, 0, left);
            System.arraycopy(holds, 1, holds, 0, left);
            System.arraycopy(hats, 1, hats, 0, left);
            System.arraycopy(since, 1, since, 0, left);
            System.arraycopy(from, 1, from, 0, left);
            System.arraycopy(printed, 1, printed, 0, left);
            System.arraycopy(newsDays, 1, newsDays, 0, left);
            System.arraycopy(spaces, 1, spaces, 0, left);
            size = left;
        }

        void takeBack(World world) {
            if (size == 0) {
                return;
            }
            size--;
            int man = men[size];
            int thing = things[size];
            int cell = World.cell(man, thing);
            world.hold[man] = holds[size];
            world.hats[cell] = hats[size];
            world.since[cell] = since[size];
            world.from[cell] = from[size];
            world.printed[thing] = printed[size];
            world.newsDays[thing] = newsDays[size];
            world.space = spaces[size];
        }
    }

    /** What was SEEN and what strikes it, in one row. */
    private static final class Seen {
        int size;
        int knownBy;
        private final int[] days;
        private final int[] men;
        private final int[] things;
        private final int[] hats;
        private final boolean[] so;
        private final int[] strikes;
        private final boolean[] counts;

        Seen() {
            size = 0;
            knownBy = NONE;
            days = new int[MOST_SEEN];
            men = new int[MOST_SEEN];
            things = new int[MOST_SEEN];
            hats = new int[MOST_SEEN];
            so = new boolean[MOST_SEEN];
            strikes = new int[MOST_SEEN];
            counts = new boolean[MOST_SEEN];
        }

        int addSight(int behind, int man, int thing, int asHats, boolean is) {
            if (size >= MOST_SEEN) {
                return NONE;
            }
            days[size] = behind;
            men[size] = man;
            things[size] = thing;
            hats[size] = asHats;
            so[size] = is;
            strikes[size] = NONE;
            size++;
            return size - 1;
        }

        int addStrike(int struck) {
            if (struck < 0 || struck >= size || size >= MOST_SEEN) {
                return NONE;
            }
            strikes[size] = struck;
            size++;
            return size - 1;
        }

        int knownCount() {
            return knownBy < 0 ? size : knownBy;
        }

        /** Marks what counts: from the last one on, so that who strikes is known to count or not ahead of its mark. */
        void sift() {
            int known = knownCount();
            for (int i = 0; i < MOST_SEEN; i++) {
                counts[i] = i < known;
            }
            for (int i = MOST_SEEN - 1; i >= 0; i--) {
                if (counts[i] && strikes[i] >= 0) {
                    counts[strikes[i]] = false;
                    counts[i] = false;
                }
            }
        }

        int lastDay() {
            int last = 0;
            for (int i = 0; i < size; i++) {
                if (counts[i] && days[i] > last) {
                    last = days[i];
                }
            }
            return last;
        }

        int thingsKnown() {
            int bits = 0;
            for (int i = 0; i < size; i++) {
                if (counts[i]) {
                    bits |= 1 << things[i];
                }
            }
            return bits;
        }

        boolean areSo(int day, World world) {
            for (int i = 0; i < size; i++) {
                if (counts[i] && days[i] == day) {
                    boolean had = world.holds(men[i], things[i])
                            && world.hats[World.cell(men[i], things[i])] == hats[i];
                    if (had != so[i]) {
                        return false;
                    }
                }
            }
            return true;
        }
    }
}
