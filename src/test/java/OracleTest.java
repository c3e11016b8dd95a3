import java.math.BigInteger;
import java.nio.charset.StandardCharsets;
import java.util.ArrayList;
import java.util.Arrays;
import java.util.HashMap;
import java.util.LinkedHashSet;
import java.util.List;
import java.util.Map;
import java.util.NoSuchElementException;
import java.util.Random;
import java.util.Set;
import java.util.TreeMap;

/** Long random runs of calls, each answer against a second, slow and plain reading of the document. */
public final class OracleTest {
    private static final long THROWS_INDEX = 1L << 40;
    private static final long THROWS_ELEMENT = 1L << 41;
    private static final int RUNS = 1500;

    private static int wrong = 0;

    public static void main(String[] args) {
        int runs = args.length > 0 ? Integer.parseInt(args[0]) : RUNS;
        int first = args.length > 1 ? Integer.parseInt(args[1]) : 1;
        TreeMap<String, int[]> tally = new TreeMap<>();
        for (int run = first; run < first + runs && wrong < 20; run++) {
            new Run(run, tally).play();
        }
        if (args.length > 2) {
            tally.forEach((k, v) -> System.out.println(k + " " + v[0]));
        }
        System.out.println(wrong == 0 ? "all answers are as due" : wrong + " answers are not as due");
        if (wrong != 0) {
            System.exit(1);
        }
    }

    // ---------------------------------------------------------------- a run

    static final class Run {
        final int number;
        final Random random;
        final SecondTelling real = new SecondTelling();
        final Model model = new Model();
        final List<String> log = new ArrayList<>();
        final TreeMap<String, int[]> tally;
        int calls = 0;
        boolean failed = false;
        int pace;

        Run(int number, TreeMap<String, int[]> tally) {
            this.number = number;
            this.random = new Random(number);
            this.tally = tally;
        }

        void play() {
            int texts = 1 + random.nextInt(3);
            for (int t = 0; t < texts && !failed; t++) {
                giveText(new TextMaker(random).make());
                pace = 2 + random.nextInt(60);
                int length = random.nextInt(160);
                for (int i = 0; i < length && !failed && calls < 512; i++) {
                    anyCall();
                }
            }
        }

        void giveText(String text) {
            byte[] bytes = text.getBytes(StandardCharsets.ISO_8859_1);
            int n = Math.min(bytes.length, 700 / 20 * 20);
            for (int at = 0; at < n; at += 20) {
                int[] five = new int[5];
                for (int i = 0; i < 20; i++) {
                    int b = at + i < bytes.length ? bytes[at + i] & 255 : 32;
                    five[i / 4] |= b << 8 * (3 - i % 4);
                }
                feed(five);
            }
            check("text " + n + " " + text, real.text(n), model.text(n));
            check("fault0", real.fault(0), model.fault(0));
            check("fault1", real.fault(1), model.fault(1));
        }

        void feed(int[] f) {
            check("feed " + Arrays.toString(f), real.feed(f[0], f[1], f[2], f[3], f[4]),
                    model.feed(f[0], f[1], f[2], f[3], f[4]));
        }

        int man() {
            return pick(model.story.people.size());
        }

        int thing() {
            return pick(model.story.things.size());
        }

        int pick(int size) {
            if (random.nextInt(200) == 0) {
                return wild();
            }
            return random.nextInt(25) == 0 || size == 0 ? random.nextInt(11) - 2 : random.nextInt(size);
        }

        int wild() {
            int[] all = {Integer.MIN_VALUE, Integer.MAX_VALUE, Integer.MIN_VALUE + 1, 1 << 30, 31, 32, 33, 64, -31, -33, 255, 1 << 16};
            return all[random.nextInt(all.length)];
        }

        int days(int most) {
            if (random.nextInt(200) == 0) {
                return wild();
            }
            return random.nextInt(20) == 0 ? random.nextInt(4) - 2 + random.nextInt(2) * most : random.nextInt(12);
        }

        void anyCall() {
            int a = man();
            int b = man();
            int t = thing();
            int w = random.nextInt(20) == 0 ? random.nextInt(12) - 3 : random.nextInt(200) == 0 ? wild() : random.nextInt(5);
            int n = days(201);
            switch (random.nextInt(46)) {
                case 0: check("fault " + w, real.fault(w), model.fault(w)); break;
                case 1: {
                    int letters = someLetters();
                    int what = random.nextInt(10) == 0 ? random.nextInt(4) - 1 : random.nextInt(2);
                    check("named " + what + " " + letters, real.named(what, letters), model.named(what, letters));
                    break;
                }
                case 2: case 3: check("thing " + t + " " + w, realThing(t, w), model.thing(t, w)); break;
                case 4: case 5: case 6: check("has " + a + " " + t + " " + w, real.has(a, t, w), model.has(a, t, w)); break;
                case 7: check("bent " + a, real.bent(a), model.bent(a)); break;
                case 8: case 9: {
                    int what = random.nextInt(20) == 0 ? random.nextInt(6) - 1 : random.nextInt(3);
                    check("law " + what + " " + t + " " + a + " " + b, real.law(what, t, a, b), model.law(what, t, a, b));
                    break;
                }
                case 10: case 11: case 12:
                    check("hear " + a + " " + b + " " + t, real.hear(a, b, t), model.hear(a, b, t)); break;
                case 13: case 14: case 15: check("tell " + a + " " + t, real.tell(a, t), model.tell(a, t)); break;
                case 16: check("forget " + a + " " + t, real.forget(a, t) ? 1 : 0, model.forget(a, t) ? 1 : 0); break;
                case 17: case 18: case 19: {
                    int d = random.nextInt(pace) > 0 ? random.nextInt(2) : n;
                    check("go " + d, real.go(d), model.go(d));
                    break;
                }
                case 20: check("ahead " + n + " " + w + " " + t, real.ahead(n, w, t), model.ahead(n, w, t)); break;
                case 21: check("when " + t, real.when(t), model.when(t)); break;
                case 22: check("hears " + a + " " + t, real.hears(a, t), model.hears(a, t)); break;
                case 23: check("joined " + a + " " + b + " " + t, real.joined(a, b, t), model.joined(a, b, t)); break;
                case 24: check("pairs " + t, real.pairs(t), model.pairs(t)); break;
                case 25: check("reach " + a, real.reach(a), model.reach(a)); break;
                case 26: check("hush " + t, real.hush(t), model.hush(t)); break;
                case 27: check("spread", real.spread(), model.spread()); break;
                case 28: check("lone", real.lone(), model.lone()); break;
                case 29: case 30: {
                    int what = random.nextInt(10) - 1;
                    check("match " + what, real.match(what), model.match(what));
                    break;
                }
                case 31: check("rests " + a + " " + b + " " + t, real.rests(a, b, t), model.rests(a, b, t)); break;
                case 32: {
                    int k = random.nextInt(4) - (random.nextInt(10) == 0 ? 2 : 0);
                    check("rest " + a + " " + b + " " + t + " " + k, real.rest(a, b, t, k), model.rest(a, b, t, k));
                    break;
                }
                case 33: {
                    int q = random.nextInt(9) - 1;
                    int what = random.nextInt(10) == 0 ? w : random.nextInt(2);
                    check("silent " + q + " " + what, real.silent(q, what), model.silent(q, what));
                    break;
                }
                case 34: case 35: {
                    int d = random.nextInt(20) == 0 ? random.nextInt(64) - 1 : 1 + random.nextInt(6);
                    int[] guess = guess(d, a, t);
                    boolean is = random.nextInt(4) > 0;
                    check("see " + d + " " + a + " " + t + " " + guess[0] + " " + is,
                            real.see(d, a, t, guess[0], is), model.see(d, a, t, guess[0], is));
                    break;
                }
                case 36: {
                    int s = random.nextInt(Math.max(1, model.seen.size() + 1)) - random.nextInt(2);
                    check("strike " + s, real.strike(s), model.strike(s));
                    break;
                }
                case 37: {
                    int k = random.nextInt(model.seen.size() + 3) - 2;
                    check("known " + k, real.known(k) ? 1 : 0, model.known(k) ? 1 : 0);
                    break;
                }
                case 38: check("bents " + a, real.bents(a), model.bents(a)); break;
                case 39: {
                    int what = random.nextInt(10) == 0 ? w : random.nextInt(2);
                    check("ask " + a + " " + t + " " + what, real.ask(a, t, what), model.ask(a, t, what));
                    break;
                }
                case 40: {
                    int seed = random.nextInt();
                    seed = random.nextInt(10) == 0 ? seed : seed & Integer.MAX_VALUE;
                    int d = days(100);
                    check("chance " + seed + " " + d + " " + a + " " + t, real.chance(seed, d, a, t), model.chance(seed, d, a, t));
                    break;
                }
                case 41: {
                    int i = w == 2 ? a : random.nextInt(8) == 0 ? a : 0;
                    check("tried " + w + " " + i + " " + n, real.tried(w, i, n), model.tried(w, i, n));
                    break;
                }
                case 42: check("undo", real.undo(), model.undo()); break;
                case 43: check("keep", real.keep(), model.keep()); break;
                case 44: check("back", real.back(), model.back()); break;
                default: {
                    int what = random.nextInt(16) - 1;
                    check("count " + what, real.count(what), model.count(what));
                }
            }
            if (random.nextInt(5) == 0) {
                int what = random.nextInt(14);
                check("count " + what, real.count(what), model.count(what));
            }
        }

        /** A HATS that is often the true one, so that what was SEEN tells something. */
        int[] guess(int d, int a, int t) {
            int truth = model.hatsBehind(d, a, t);
            return new int[] {truth >= 0 && random.nextInt(3) > 0 ? truth : random.nextInt(104) - 2};
        }

        int someLetters() {
            List<Integer> all = new ArrayList<>();
            for (Model.Man m : model.story.people) {
                all.add(Model.code(m.name));
            }
            for (Model.Thing m : model.story.things) {
                all.add(Model.code(m.name));
            }
            all.add(0);
            all.add(random.nextInt());
            return all.get(random.nextInt(all.size()));
        }

        long realThing(int t, int w) {
            try {
                return real.thing(t, w);
            } catch (IndexOutOfBoundsException e) {
                return THROWS_INDEX;
            } catch (NoSuchElementException e) {
                return THROWS_ELEMENT;
            }
        }

        void check(String call, long got, long due) {
            calls++;
            String[] words = call.split(" ");
            tally.computeIfAbsent(words[0] + " -> " + (got < -2 ? "less" : got > 2 ? "more" : "" + got), k -> new int[1])[0]++;
            log.add(call + " -> " + got);
            if (got != due && !failed) {
                failed = true;
                wrong++;
                System.out.println("run " + number + ": " + call + " answered " + got + ", due is " + due);
                for (String line : log.subList(Math.max(0, log.size() - 60), log.size())) {
                    System.out.println("    " + line);
                }
            }
        }
    }

    // ---------------------------------------------------------------- texts

    static final class TextMaker {
        final Random random;
        final StringBuilder out = new StringBuilder();
        final List<String> men = new ArrayList<>();
        final List<String> things = new ArrayList<>();
        int knots = 0;

        TextMaker(Random random) {
            this.random = random;
        }

        String make() {
            int people = 1 + random.nextInt(7);
            int count = 1 + random.nextInt(random.nextInt(3) == 0 ? 6 : 3);
            int lawless = 2 + random.nextInt(4);
            for (int i = 0; i < people; i++) {
                men.add(name(i));
                line("man " + name(i) + " " + random.nextInt(10));
            }
            for (int i = 0; i < count; i++) {
                things.add(name(i + 3));
                line("thing " + name(i + 3) + " " + random.nextInt(random.nextInt(5) == 0 ? 100 : 5) + " " + random.nextInt(100));
            }
            Set<String> sees = new LinkedHashSet<>();
            for (int i = random.nextInt(16); i > 0 && sees.size() < 10; i--) {
                sees.add("sees " + aMan() + " " + aThing());
            }
            sees.forEach(this::line);
            for (int i = random.nextInt(13); i > 0 && people > 1; i--) {
                String from = aMan();
                String to = aMan();
                if (!from.equals(to)) {
                    line("way " + from + " " + to + " " + (1 + random.nextInt(random.nextInt(4) == 0 ? 9 : 2)));
                }
            }
            for (int i = random.nextInt(13); i > 0; i--) {
                line("tell " + aMan() + " " + aThing() + " " + random.nextInt(random.nextInt(5) == 0 ? 100 : 9));
            }
            if (random.nextInt(2) == 0) {
                line("near " + random.nextInt(6));
            }
            if (random.nextInt(2) == 0) {
                line("far " + random.nextInt(100));
            }
            if (random.nextInt(3) != 0) {
                line("talk " + (random.nextInt(3) == 0 ? random.nextInt(3) * 50 : random.nextInt(101)));
            }
            if (random.nextInt(2) == 0) {
                line("seed " + random.nextInt(100000));
            }
            for (String rule : new String[] {"change", "fits", "print"}) {
                if (random.nextInt(lawless) == 0) {
                    line("law " + rule + " " + e(3 + random.nextInt(2)));
                }
            }
            String text = out.toString();
            return random.nextInt(3) == 0 ? spoil(text) : text;
        }

        String name(int i) {
            return new String[] {"a", "bo", "cyd", "dina", "evelx", "fritzy", "g", "h", "ii", "manman"}[i];
        }

        String aMan() {
            return men.get(random.nextInt(men.size()));
        }

        String aThing() {
            return things.get(random.nextInt(things.size()));
        }

        void line(String line) {
            if (out.length() + line.length() < 690) {
                out.append(line).append(random.nextInt(6) == 0 ? " ;\n" : ";");
            }
        }

        String e(int depth) {
            StringBuilder b = new StringBuilder(a(depth));
            while (random.nextInt(7) == 0) {
                b.append(" or ").append(a(depth));
            }
            return b.toString();
        }

        String a(int depth) {
            StringBuilder b = new StringBuilder(b(depth));
            while (random.nextInt(7) == 0) {
                b.append(" and ").append(b(depth));
            }
            return b.toString();
        }

        String b(int depth) {
            return random.nextInt(9) == 0 ? "not " + b(depth) : c(depth);
        }

        String c(int depth) {
            String[] signs = {"<", "<=", "=", "<>", ">=", ">"};
            return random.nextInt(3) == 0 ? s(depth) + gap() + signs[random.nextInt(6)] + gap() + s(depth) : s(depth);
        }

        String s(int depth) {
            StringBuilder b = new StringBuilder(t(depth));
            while (random.nextInt(3) == 0) {
                b.append(gap()).append(random.nextInt(2) == 0 ? "+" : "-").append(gap()).append(t(depth));
            }
            return b.toString();
        }

        String t(int depth) {
            StringBuilder b = new StringBuilder(p(depth));
            while (random.nextInt(4) == 0) {
                b.append(gap()).append(random.nextInt(2) == 0 ? "*" : "/").append(gap()).append(p(depth));
            }
            return b.toString();
        }

        String p(int depth) {
            String[] names = {"hats", "bent", "old", "apart", "many", "told", "day"};
            if (depth > 0 && random.nextInt(6) == 0) {
                return "(" + e(depth - 1) + ")";
            }
            if (random.nextInt(3) == 0) {
                return "" + random.nextInt(random.nextInt(4) == 0 ? 10000 : 10);
            }
            return names[random.nextInt(7)];
        }

        String gap() {
            return random.nextInt(3) == 0 ? " " : "";
        }

        /** Small damage, so that FAULTS of all kinds come up at all kinds of places. */
        String spoil(String text) {
            String[] bits = {"man ", "thing ", ";", "(", ")", "not ", "and ", " or ", "<", ">", "=", "9", "10", "0", "x", "a ", "bo ",
                "sees ", "way ", "tell ", "near 3;", "far 3;", "talk 50;", "seed 7;", "law ", "fits ", "law fits 1;", "hats", "A", "\t",
                "\r", "\u00e9", "100", "abcdefg ", "((((((((", "(((((((((1", "+", "-1", "*", "/", "99999", " ", "\n", "change ", "print ",
                "sees a dina;sees a dina;", "way a a 1;", "99999999999999999999999", "law print 1+1+1+1+1+1+1+1+1+1+1+1+1+1+1+1+1+1+1+1+1+1+1+1+1+1;",
                "man q 1;man r 1;man s 1;man t 1;man u 1;", "thing q 1 1;thing r 1 1;thing s 1 1;thing t 1 1;"};
            StringBuilder b = new StringBuilder(text);
            for (int i = 1 + random.nextInt(2); i > 0; i--) {
                int at = random.nextInt(b.length() + 1);
                switch (random.nextInt(4)) {
                    case 0:
                        b.insert(at, bits[random.nextInt(bits.length)]);
                        break;
                    case 1:
                        b.delete(at, Math.min(b.length(), at + 1 + random.nextInt(3)));
                        break;
                    case 2:
                        b.delete(Math.min(b.length(), at + random.nextInt(200)), b.length());
                        break;
                    default:
                        int end = b.indexOf(";", at);
                        b.insert(end < 0 ? b.length() : end + 1, bits[random.nextInt(bits.length)]);
                }
            }
            return b.toString();
        }
    }

    // ---------------------------------------------------------------- the plain reading

    static final class Model {
        static final class Fault extends RuntimeException {
            final int kind;
            final int place;

            Fault(int kind, int place) {
                this.kind = kind;
                this.place = place;
            }
        }

        static final class Man {
            String name;
            int bent;
        }

        static final class Thing {
            String name;
            int day;
            int hats;
        }

        static final class Knot {
            String sign;
            BigInteger number;
            Knot left;
            Knot right;
        }

        static final class Story {
            List<Man> people = new ArrayList<>();
            List<Thing> things = new ArrayList<>();
            List<int[]> sees = new ArrayList<>();
            List<int[]> ways = new ArrayList<>();
            List<int[]> tells = new ArrayList<>();
            Map<String, Integer> sets = new HashMap<>(Map.of("near", 1, "far", 9, "talk", 100, "seed", 0));
            Map<String, Knot> laws = new HashMap<>();
            int knots = 0;
            int lines = 0;
        }

        record Have(int hats, int since, int from) { }

        record Print(int hats, Set<Integer> chain) { }

        static final class World {
            int day;
            BigInteger number;
            int space;
            int idle;
            Map<List<Integer>, Have> have = new HashMap<>();
            Map<List<Integer>, Print> prints = new HashMap<>();
            Map<Integer, Integer> news = new HashMap<>();

            World copy() {
                World w = new World();
                w.day = day;
                w.number = number;
                w.space = space;
                w.idle = idle;
                w.have.putAll(have);
                w.prints.putAll(prints);
                w.news.putAll(news);
                return w;
            }

            Have of(int man, int thing) {
                return have.get(List.of(man, thing));
            }

            Set<Integer> chain(int man, int thing) {
                Set<Integer> in = new LinkedHashSet<>();
                int at = man;
                while (in.add(at)) {
                    Have h = of(at, thing);
                    if (h == null || h.from < 0) {
                        break;
                    }
                    at = h.from;
                }
                return in;
            }
        }

        static final class How {
            String talk = "asitgoes";
            Set<Integer> noWays = Set.of();
            Set<Integer> noTells = Set.of();
            Map<Integer, Integer> bents = new HashMap<>();
            boolean noFits = false;
        }

        // ---- reading

        static final class Token {
            String kind;
            String text;
            int place;
        }

        static final Set<String> LANGUAGE = Set.of("man", "thing", "sees", "way", "tell", "near", "far", "talk", "seed", "law",
                "change", "fits", "print", "or", "and", "not", "hats", "bent", "old", "apart", "many", "told", "day");
        static final Set<String> NAMES = Set.of("hats", "bent", "old", "apart", "many", "told", "day");
        static final Set<String> COMPARE = Set.of("<", "<=", "=", "<>", ">=", ">");

        static final class Parser {
            final String text;
            int at = 0;
            Token t;
            final Story story = new Story();
            int open = 0;
            final Set<String> told = new LinkedHashSet<>();

            Parser(String text) {
                this.text = text;
            }

            void next() {
                while (at < text.length() && (text.charAt(at) == 10 || text.charAt(at) == 32)) {
                    at++;
                }
                t = new Token();
                t.place = at;
                String rest = text.substring(at);
                if (rest.isEmpty()) {
                    t.kind = "end";
                    t.text = "";
                    return;
                }
                for (String form : new String[] {"[a-z]+", "[0-9]+", "<=|<>|>=|[-+*/<>=();]"}) {
                    java.util.regex.Matcher m = java.util.regex.Pattern.compile(form).matcher(rest);
                    if (m.lookingAt()) {
                        t.text = m.group();
                        at += t.text.length();
                        char c = t.text.charAt(0);
                        if (c >= 'a' && c <= 'z') {
                            t.kind = LANGUAGE.contains(t.text) ? "key" : t.text.length() > 6 ? "none" : "word";
                        } else {
                            t.kind = Character.isDigit(c) ? "number" : "sign";
                        }
                        return;
                    }
                }
                t.kind = "none";
                t.text = "?";
            }

            Fault fault(int kind) {
                return new Fault(kind, t.place);
            }

            boolean is(String text) {
                return t.text.equals(text) && (t.kind.equals("key") || t.kind.equals("sign"));
            }

            Story all() {
                next();
                while (!t.kind.equals("end")) {
                    line();
                    if (!is(";")) {
                        throw fault(1);
                    }
                    story.lines++;
                    next();
                }
                return story;
            }

            void limit(List<?> list, int most) {
                if (list.size() >= most) {
                    throw fault(2);
                }
                next();
            }

            String word() {
                if (!t.kind.equals("word")) {
                    throw fault(1);
                }
                return t.text;
            }

            int number(int least, int most) {
                if (!t.kind.equals("number")) {
                    throw fault(1);
                }
                BigInteger n = new BigInteger(t.text);
                if (n.compareTo(BigInteger.valueOf(least)) < 0 || n.compareTo(BigInteger.valueOf(most)) > 0) {
                    throw fault(2);
                }
                next();
                return n.intValue();
            }

            int man() {
                String w = word();
                for (int i = 0; i < story.people.size(); i++) {
                    if (story.people.get(i).name.equals(w)) {
                        return i;
                    }
                }
                throw fault(4);
            }

            int thing() {
                String w = word();
                for (int i = 0; i < story.things.size(); i++) {
                    if (story.things.get(i).name.equals(w)) {
                        return i;
                    }
                }
                throw fault(4);
            }

            void line() {
                if (!t.kind.equals("key")) {
                    throw fault(1);
                }
                switch (t.text) {
                    case "man": {
                        limit(story.people, 7);
                        Man m = new Man();
                        m.name = word();
                        if (story.people.stream().anyMatch(o -> o.name.equals(m.name))) {
                            throw fault(3);
                        }
                        next();
                        m.bent = number(0, 9);
                        story.people.add(m);
                        break;
                    }
                    case "thing": {
                        limit(story.things, 6);
                        Thing m = new Thing();
                        m.name = word();
                        if (story.things.stream().anyMatch(o -> o.name.equals(m.name))) {
                            throw fault(3);
                        }
                        next();
                        m.day = number(0, 99);
                        m.hats = number(0, 99);
                        story.things.add(m);
                        break;
                    }
                    case "sees": {
                        limit(story.sees, 10);
                        int m = man();
                        next();
                        int th = thing();
                        if (story.sees.stream().anyMatch(s -> s[0] == m && s[1] == th)) {
                            throw fault(3);
                        }
                        next();
                        story.sees.add(new int[] {m, th});
                        break;
                    }
                    case "way": {
                        limit(story.ways, 12);
                        int from = man();
                        next();
                        int to = man();
                        if (from == to) {
                            throw fault(5);
                        }
                        next();
                        story.ways.add(new int[] {from, to, number(1, 9)});
                        break;
                    }
                    case "tell": {
                        limit(story.tells, 12);
                        int m = man();
                        next();
                        int th = thing();
                        next();
                        story.tells.add(new int[] {m, th, number(0, 99)});
                        break;
                    }
                    case "near": case "far": case "talk": case "seed": {
                        String what = t.text;
                        if (!told.add(what)) {
                            throw fault(3);
                        }
                        next();
                        story.sets.put(what, number(0, what.equals("seed") ? 99999 : what.equals("talk") ? 100 : 99));
                        break;
                    }
                    case "law": {
                        next();
                        if (!is("change") && !is("fits") && !is("print")) {
                            throw fault(1);
                        }
                        String rule = t.text;
                        if (story.laws.containsKey(rule)) {
                            throw fault(3);
                        }
                        next();
                        story.laws.put(rule, e());
                        break;
                    }
                    default:
                        throw fault(1);
                }
            }

            Knot knot(Knot left, Knot right) {
                story.knots++;
                if (story.knots > 64) {
                    throw fault(2);
                }
                Knot k = new Knot();
                k.sign = t.text;
                k.left = left;
                k.right = right;
                next();
                return k;
            }

            Knot e() {
                Knot left = a();
                while (is("or")) {
                    left = knot(left, null);
                    left.right = a();
                }
                return left;
            }

            Knot a() {
                Knot left = b();
                while (is("and")) {
                    left = knot(left, null);
                    left.right = b();
                }
                return left;
            }

            Knot b() {
                if (is("not")) {
                    Knot k = knot(null, null);
                    k.left = b();
                    return k;
                }
                return c();
            }

            Knot c() {
                Knot left = s();
                if (t.kind.equals("sign") && COMPARE.contains(t.text)) {
                    left = knot(left, null);
                    left.right = s();
                }
                return left;
            }

            Knot s() {
                Knot left = t();
                while (is("+") || is("-")) {
                    left = knot(left, null);
                    left.right = t();
                }
                return left;
            }

            Knot t() {
                Knot left = p();
                while (is("*") || is("/")) {
                    left = knot(left, null);
                    left.right = p();
                }
                return left;
            }

            Knot p() {
                if (t.kind.equals("number")) {
                    BigInteger n = new BigInteger(t.text);
                    if (n.compareTo(BigInteger.valueOf(9999)) > 0) {
                        throw fault(2);
                    }
                    Knot k = knot(null, null);
                    k.sign = "N";
                    k.number = n;
                    return k;
                }
                if (t.kind.equals("key") && NAMES.contains(t.text)) {
                    return knot(null, null);
                }
                if (!is("(")) {
                    throw fault(1);
                }
                open++;
                if (open > 8) {
                    throw fault(2);
                }
                next();
                Knot k = e();
                if (!is(")")) {
                    throw fault(1);
                }
                open--;
                next();
                return k;
            }
        }

        // ---- state

        static final BigInteger LIMIT = BigInteger.TEN.pow(12);

        StringBuilder tape = new StringBuilder();
        Story story = new Story();
        World now = fresh(story);
        World image = null;
        List<World> undos = new ArrayList<>();
        List<int[]> seen = new ArrayList<>();
        int knownBy = -1;
        int faultKind = 0;
        int faultPlace = -1;

        static World fresh(Story s) {
            World w = new World();
            w.number = BigInteger.valueOf(s.sets.get("seed"));
            return w;
        }

        int feed(int... five) {
            if (tape.length() + 20 > 700) {
                return -1;
            }
            for (int v : five) {
                for (byte b : BigInteger.valueOf(v & 0xffffffffL).add(BigInteger.ONE.shiftLeft(40)).toByteArray()) {
                    tape.append((char) (b & 255));
                }
                tape.delete(tape.length() - 6, tape.length() - 4);
            }
            return tape.length();
        }

        int text(int n) {
            if (n < 0 || n > tape.length()) {
                return -2;
            }
            String text = tape.substring(0, n);
            tape.setLength(0);
            try {
                story = new Parser(text).all();
            } catch (Fault f) {
                faultKind = f.kind;
                faultPlace = f.place;
                return -1;
            }
            faultKind = 0;
            faultPlace = -1;
            now = fresh(story);
            image = null;
            undos.clear();
            seen.clear();
            knownBy = -1;
            return story.lines;
        }

        int fault(int what) {
            return what == 0 ? faultKind : what == 1 ? faultPlace : -1;
        }

        static int code(String name) {
            int code = 0;
            for (int i = 0; i < 6; i++) {
                code = code * 32 + (i < name.length() ? name.charAt(i) - 96 : 0);
            }
            return code;
        }

        int named(int what, int letters) {
            if (what == 0) {
                for (int i = 0; i < story.people.size(); i++) {
                    if (code(story.people.get(i).name) == letters) {
                        return i;
                    }
                }
            }
            if (what == 1) {
                for (int i = 0; i < story.things.size(); i++) {
                    if (code(story.things.get(i).name) == letters) {
                        return i;
                    }
                }
            }
            return -1;
        }

        boolean man(int m) {
            return m >= 0 && m < story.people.size();
        }

        boolean isThing(int t) {
            return t >= 0 && t < story.things.size();
        }

        static int bits(Iterable<Integer> of) {
            int b = 0;
            for (int i : of) {
                b |= 1 << i;
            }
            return b;
        }

        Set<Integer> havers(World w, int t) {
            Set<Integer> all = new LinkedHashSet<>();
            for (int m = 0; m < story.people.size(); m++) {
                if (w.of(m, t) != null) {
                    all.add(m);
                }
            }
            return all;
        }

        Set<Integer> printers(World w, int t) {
            Set<Integer> all = new LinkedHashSet<>();
            for (int m = 0; m < story.people.size(); m++) {
                if (w.prints.containsKey(List.of(m, t))) {
                    all.add(m);
                }
            }
            return all;
        }

        long thing(int t, int what) {
            if (!isThing(t)) {
                return THROWS_INDEX;
            }
            switch (what) {
                case 0: return story.things.get(t).day;
                case 1: return story.things.get(t).hats;
                case 2: return now.news.getOrDefault(t, -2);
                case 3: return bits(havers(now, t));
                case 4: return bits(printers(now, t));
                default: return THROWS_ELEMENT;
            }
        }

        int has(int m, int t, int what) {
            if (!man(m) || !isThing(t) || what < 0 || what > 4) {
                return -1;
            }
            if (what == 4) {
                Print p = now.prints.get(List.of(m, t));
                return p == null ? -2 : p.hats;
            }
            Have h = now.of(m, t);
            if (h == null) {
                return -2;
            }
            return what == 0 ? h.hats : what == 1 ? h.since : what == 2 ? h.from : bits(now.chain(m, t));
        }

        int bent(int m) {
            return man(m) ? story.people.get(m).bent : -1;
        }

        // ---- laws

        int bentOf(How how, int m) {
            return how.bents.getOrDefault(m, story.people.get(m).bent);
        }

        /** null: an ERROR, or no such law. */
        BigInteger worth(String rule, World w, How how, int m, int t, int apart) {
            Knot k = story.laws.get(rule);
            if (k == null) {
                return null;
            }
            Have h = w.of(m, t);
            Map<String, Integer> facts = Map.of("hats", h.hats, "bent", bentOf(how, m), "old", w.day - h.since, "apart", apart,
                    "many", havers(w, t).size(), "told", printers(w, t).size(), "day", w.day);
            return value(k, facts);
        }

        static BigInteger value(Knot k, Map<String, Integer> facts) {
            if (k.sign.equals("N")) {
                return k.number;
            }
            if (NAMES.contains(k.sign)) {
                return BigInteger.valueOf(facts.get(k.sign));
            }
            BigInteger a = value(k.left, facts);
            BigInteger b = k.right == null ? BigInteger.ONE : value(k.right, facts);
            if (a == null || b == null) {
                return null;
            }
            BigInteger v;
            switch (k.sign) {
                case "+": v = a.add(b); break;
                case "-": v = a.subtract(b); break;
                case "*": v = a.multiply(b); break;
                case "/":
                    if (b.signum() == 0) {
                        return null;
                    }
                    v = a.divide(b);
                    break;
                case "<": v = bool(a.compareTo(b) < 0); break;
                case "<=": v = bool(a.compareTo(b) <= 0); break;
                case "=": v = bool(a.equals(b)); break;
                case "<>": v = bool(!a.equals(b)); break;
                case ">=": v = bool(a.compareTo(b) >= 0); break;
                case ">": v = bool(a.compareTo(b) > 0); break;
                case "and": v = bool(a.signum() != 0 && b.signum() != 0); break;
                case "or": v = bool(a.signum() != 0 || b.signum() != 0); break;
                default: v = bool(a.signum() == 0);
            }
            return v.abs().compareTo(LIMIT) > 0 ? null : v;
        }

        static BigInteger bool(boolean b) {
            return b ? BigInteger.ONE : BigInteger.ZERO;
        }

        long law(int what, int t, int one, int other) {
            if (what < 0 || what > 2 || !isThing(t) || !man(one) || now.of(one, t) == null) {
                return Long.MIN_VALUE;
            }
            BigInteger v;
            if (what == 0) {
                v = worth("change", now, new How(), one, t, 0);
            } else {
                if (!man(other) || one == other || now.of(other, t) == null) {
                    return Long.MIN_VALUE;
                }
                int apart = Math.abs(now.of(one, t).hats - now.of(other, t).hats);
                v = worth(what == 1 ? "fits" : "print", now, new How(), other, t, apart);
            }
            return v == null ? Long.MIN_VALUE : v.longValueExact();
        }

        static int clamp(BigInteger v, int most) {
            return v.max(BigInteger.ZERO).min(BigInteger.valueOf(most)).intValue();
        }

        boolean fit(World w, How how, Print early, int later, int t) {
            Set<Integer> common = new LinkedHashSet<>(early.chain);
            common.retainAll(w.chain(later, t));
            if (!common.isEmpty()) {
                return false;
            }
            if (how.noFits) {
                return true;
            }
            int apart = Math.abs(early.hats - w.of(later, t).hats);
            BigInteger v = worth("fits", w, how, later, t, apart);
            return v == null ? apart >= story.sets.get("near") && apart <= story.sets.get("far") : v.signum() != 0;
        }

        void pass(World w, How how, int from, int to, int t) {
            BigInteger v = worth("change", w, how, from, t, 0);
            int hats = v == null ? (w.of(from, t).hats + bentOf(how, from)) % 100 : clamp(v, 99);
            w.have.put(List.of(to, t), new Have(hats, w.day, from));
        }

        boolean print(World w, How how, int m, int t) {
            boolean news = false;
            if (!w.news.containsKey(t)) {
                for (int early : printers(w, t)) {
                    Print p = w.prints.get(List.of(early, t));
                    if (fit(w, how, p, m, t)) {
                        BigInteger v = worth("print", w, how, m, t, Math.abs(p.hats - w.of(m, t).hats));
                        w.space = Math.min(99999, w.space + (v == null ? 1 : clamp(v, 999)));
                        news = true;
                        break;
                    }
                }
            }
            if (news) {
                w.news.put(t, w.day);
            }
            w.prints.put(List.of(m, t), new Print(w.of(m, t).hats, w.chain(m, t)));
            return news;
        }

        boolean talks(World w, How how) {
            int talk = story.sets.get("talk");
            switch (how.talk) {
                case "always": return true;
                case "never": return false;
                case "asitgoes": return talk >= 50;
                default:
            }
            if (talk == 0 || talk == 100) {
                return talk == 100;
            }
            w.number = w.number.multiply(BigInteger.valueOf(1103515245)).add(BigInteger.valueOf(12345)).mod(BigInteger.ONE.shiftLeft(31));
            return w.number.divide(BigInteger.valueOf(65536)).mod(BigInteger.valueOf(100)).intValue() < talk;
        }

        void day(World w, How how) {
            for (int t = 0; t < story.things.size(); t++) {
                for (int m = 0; m < story.people.size(); m++) {
                    int tt = t;
                    int mm = m;
                    if (story.things.get(t).day == w.day && w.of(m, t) == null
                            && story.sees.stream().anyMatch(s -> s[0] == mm && s[1] == tt)) {
                        w.have.put(List.of(m, t), new Have(story.things.get(t).hats, w.day, -2));
                    }
                }
            }
            for (int[] way : story.ways) {
                for (int t = 0; t < story.things.size(); t++) {
                    Have h = w.of(way[0], t);
                    if (h != null && w.day - h.since >= way[2] && w.of(way[1], t) == null && !how.noWays.contains(way[0])
                            && talks(w, how)) {
                        pass(w, how, way[0], way[1], t);
                    }
                }
            }
            for (int[] tell : story.tells) {
                if (tell[2] == w.day && !how.noTells.contains(tell[0])) {
                    if (w.of(tell[0], tell[1]) == null || w.prints.containsKey(List.of(tell[0], tell[1]))) {
                        w.idle++;
                    } else {
                        print(w, how, tell[0], tell[1]);
                    }
                }
            }
            w.day++;
        }

        World after(World w, How how, int n) {
            World c = w.copy();
            for (int i = 0; i < n; i++) {
                day(c, how);
            }
            return c;
        }

        // ---- calls

        void remember() {
            undos.add(now.copy());
            if (undos.size() > 20) {
                undos.remove(0);
            }
        }

        int hear(int m, int from, int t) {
            if (!man(m) || !man(from) || m == from || !isThing(t)) {
                return -1;
            }
            if (now.of(m, t) != null || now.of(from, t) == null) {
                return -2;
            }
            remember();
            pass(now, new How(), from, m, t);
            return now.of(m, t).hats;
        }

        int tell(int m, int t) {
            if (!man(m) || !isThing(t)) {
                return -1;
            }
            if (now.of(m, t) == null || now.prints.containsKey(List.of(m, t))) {
                return -2;
            }
            remember();
            return print(now, new How(), m, t) ? 1 : 0;
        }

        boolean forget(int m, int t) {
            if (!man(m) || !isThing(t) || now.of(m, t) == null) {
                return false;
            }
            remember();
            now.have.remove(List.of(m, t));
            return true;
        }

        int go(int n) {
            if (n < 0 || n > 200 || now.day + n > 9800) {
                return -1;
            }
            How how = new How();
            how.talk = "drawn";
            for (int i = 0; i < n; i++) {
                day(now, how);
                undos.clear();
            }
            return now.day;
        }

        int ahead(int n, int what, int i) {
            if (n < 0 || n > 200 || what < 0 || what > 3 || what == 1 && !isThing(i)) {
                return -1;
            }
            World w = after(now, new How(), n);
            return what == 0 ? w.news.size() : what == 1 ? havers(w, i).size() : what == 2 ? w.space - now.space : w.idle - now.idle;
        }

        int when(int t) {
            if (!isThing(t)) {
                return -1;
            }
            World w = now.copy();
            for (int d = 0; d < 200; d++) {
                if (w.news.containsKey(t)) {
                    return d;
                }
                day(w, new How());
            }
            return -2;
        }

        int hears(int m, int t) {
            if (!man(m) || !isThing(t)) {
                return -1;
            }
            World w = now.copy();
            for (int d = 0; d < 200; d++) {
                if (w.of(m, t) != null) {
                    return d;
                }
                day(w, new How());
            }
            return -2;
        }

        int joined(int a, int b, int t) {
            if (!man(a) || !man(b) || a == b || !isThing(t)) {
                return -1;
            }
            if (now.of(a, t) == null || now.of(b, t) == null) {
                return -2;
            }
            return (bits(now.chain(a, t)) & bits(now.chain(b, t))) != 0 ? 1 : 0;
        }

        boolean wouldFit(int a, int b, int t) {
            int early = Math.min(a, b);
            return fit(now, new How(), new Print(now.of(early, t).hats, now.chain(early, t)), Math.max(a, b), t);
        }

        int pairs(int t) {
            if (!isThing(t)) {
                return -1;
            }
            int n = 0;
            for (int a : havers(now, t)) {
                for (int b : havers(now, t)) {
                    if (a < b && wouldFit(a, b, t)) {
                        n++;
                    }
                }
            }
            return n;
        }

        int reach(int m) {
            if (!man(m)) {
                return -1;
            }
            List<Integer> todo = new ArrayList<>(List.of(m));
            for (int i = 0; i < todo.size(); i++) {
                for (int[] way : story.ways) {
                    if (way[0] == todo.get(i) && !todo.contains(way[1])) {
                        todo.add(way[1]);
                    }
                }
            }
            return bits(todo);
        }

        Set<Integer> setOf(int bits) {
            Set<Integer> all = new LinkedHashSet<>();
            for (int i = 0; i < 7; i++) {
                if ((bits >> i & 1) == 1) {
                    all.add(i);
                }
            }
            return all;
        }

        List<Integer> crowds() {
            List<Integer> all = new ArrayList<>();
            for (int i = 0; i < 1 << story.people.size(); i++) {
                all.add(i);
            }
            all.sort((a, b) -> Integer.bitCount(a) != Integer.bitCount(b) ? Integer.bitCount(a) - Integer.bitCount(b) : a - b);
            return all;
        }

        int hush(int t) {
            if (!isThing(t)) {
                return -1;
            }
            if (now.news.containsKey(t)) {
                return -2;
            }
            for (int c : crowds()) {
                How how = new How();
                how.noWays = setOf(c);
                how.noTells = setOf(c);
                if (!after(now, how, 60).news.containsKey(t)) {
                    return c;
                }
            }
            throw new IllegalStateException();
        }

        int spread() {
            for (int c : crowds()) {
                int all = 0;
                for (int m : setOf(c)) {
                    all |= reach(m);
                }
                if (all == (1 << story.people.size()) - 1) {
                    return c;
                }
            }
            throw new IllegalStateException();
        }

        int lone() {
            int b = 0;
            for (int t = 0; t < story.things.size(); t++) {
                b |= havers(now, t).size() == 1 ? 1 << t : 0;
            }
            return b;
        }

        int[] best;
        int bestCount;

        void matchFrom(int t, int[] chosen, int count) {
            if (t == story.things.size()) {
                if (count > bestCount) {
                    bestCount = count;
                    best = chosen.clone();
                }
                return;
            }
            for (int m = 0; m < story.people.size() && !now.news.containsKey(t); m++) {
                int mm = m;
                if (now.of(m, t) != null && !now.prints.containsKey(List.of(m, t))
                        && Arrays.stream(chosen).limit(t).noneMatch(c -> c == mm) && print(now.copy(), new How(), m, t)) {
                    chosen[t] = m;
                    matchFrom(t + 1, chosen, count + 1);
                }
            }
            chosen[t] = -2;
            matchFrom(t + 1, chosen, count);
        }

        int match(int what) {
            if (what < 0 || what > 6) {
                return -1;
            }
            bestCount = -1;
            int[] none = new int[6];
            Arrays.fill(none, -2);
            matchFrom(0, none, 0);
            return what == 6 ? bestCount : best[what];
        }

        List<Integer> restsOf(int a, int b, int t) {
            int[][] gains = {{0, 1}, {2, 0}};
            gains[0][0] = wouldFit(a, b, t) ? 3 : 0;
            List<Integer> all = new ArrayList<>();
            for (int i = 0; i < 2; i++) {
                for (int j = 0; j < 2; j++) {
                    if (gains[i][j] >= gains[1 - i][j] && gains[j][i] >= gains[1 - j][i]) {
                        all.add(10 * i + j);
                    }
                }
            }
            return all;
        }

        int rests(int a, int b, int t) {
            int j = joined(a, b, t);
            return j < 0 ? j : restsOf(a, b, t).size();
        }

        int rest(int a, int b, int t, int k) {
            if (k < 0) {
                return -1;
            }
            int j = joined(a, b, t);
            if (j < 0) {
                return j;
            }
            List<Integer> all = restsOf(a, b, t);
            return k < all.size() ? all.get(k) : -2;
        }

        long silent(int n, int what) {
            if (n < 0 || n > 6 || what < 0 || what > 1) {
                return -1;
            }
            BigInteger above = BigInteger.valueOf(100 - story.sets.get("talk")).pow(n);
            BigInteger below = BigInteger.valueOf(100).pow(n);
            BigInteger g = above.gcd(below);
            return (what == 0 ? above : below).divide(g).longValueExact();
        }

        int see(int d, int m, int t, int hats, boolean is) {
            if (d < 1 || d > 60 || !man(m) || !isThing(t) || hats < 0 || hats > 99 || seen.size() == 24) {
                return -1;
            }
            seen.add(new int[] {d, m, t, hats, is ? 1 : 0});
            return seen.size() - 1;
        }

        int strike(int s) {
            if (s < 0 || s >= seen.size() || seen.size() == 24) {
                return -1;
            }
            seen.add(new int[] {s});
            return seen.size() - 1;
        }

        boolean known(int n) {
            if (n < -1 || n > seen.size()) {
                return false;
            }
            knownBy = n;
            return true;
        }

        int knownCount() {
            return knownBy < 0 ? seen.size() : knownBy;
        }

        boolean struck(int i) {
            for (int j = i + 1; j < knownCount(); j++) {
                if (seen.get(j).length == 1 && seen.get(j)[0] == i && !struck(j)) {
                    return true;
                }
            }
            return false;
        }

        World fromText(int m, int bent, int n) {
            How how = new How();
            how.bents.put(m, bent);
            return after(fresh(story), how, n);
        }

        int hatsBehind(int d, int m, int t) {
            if (d < 1 || d > 60 || !man(m) || !isThing(t)) {
                return -1;
            }
            Have h = after(fresh(story), new How(), d).of(m, t);
            return h == null ? -1 : h.hats;
        }

        int bents(int m) {
            if (!man(m)) {
                return -1;
            }
            int b = 0;
            for (int bent = 0; bent < 10; bent++) {
                boolean ok = true;
                for (int i = 0; i < knownCount() && ok; i++) {
                    int[] s = seen.get(i);
                    if (s.length == 5 && !struck(i)) {
                        Have h = fromText(m, bent, s[0]).of(s[1], s[2]);
                        ok = (h != null && h.hats == s[3]) == (s[4] == 1);
                    }
                }
                b |= ok ? 1 << bent : 0;
            }
            return b;
        }

        int ask(int m, int t, int what) {
            if (!man(m) || !isThing(t) || what < 0 || what > 1) {
                return -1;
            }
            int left = bents(m);
            Map<Integer, World> worlds = new TreeMap<>();
            for (int bent = 0; bent < 10; bent++) {
                if ((left >> bent & 1) == 1) {
                    worlds.put(bent, fromText(m, bent, 20));
                }
            }
            int whom = -1;
            int fewest = 99;
            for (int p = 0; p < story.people.size(); p++) {
                Map<Integer, Integer> groups = new HashMap<>();
                for (World w : worlds.values()) {
                    Have h = w.of(p, t);
                    groups.merge(h == null ? -1 : h.hats, 1, Integer::sum);
                }
                int worst = groups.values().stream().mapToInt(x -> x).max().orElse(0);
                if (worst < fewest) {
                    fewest = worst;
                    whom = p;
                }
            }
            return what == 0 ? whom : fewest;
        }

        int chance(int seed, int n, int m, int t) {
            if (seed < 0 || n < 1 || n > 99 || !man(m) || !isThing(t)) {
                return -1;
            }
            How how = new How();
            how.talk = "drawn";
            BigInteger number = BigInteger.valueOf(seed);
            int times = 0;
            for (int i = 0; i < 10; i++) {
                World w = now.copy();
                w.number = number;
                w = after(w, how, n);
                number = w.number;
                times += w.of(m, t) != null ? 1 : 0;
            }
            return times;
        }

        int tried(int what, int i, int n) {
            if (what < 0 || what > 4 || n < 0 || n > 200 || (what == 2 ? !man(i) : i != 0)) {
                return -1;
            }
            How how = new How();
            if (what == 0) {
                how.talk = "always";
            }
            if (what == 1) {
                how.talk = "never";
            }
            if (what == 2) {
                how.noWays = Set.of(i);
            }
            if (what == 3) {
                for (int m = 0; m < 7; m++) {
                    how.bents.put(m, 0);
                }
            }
            how.noFits = what == 4;
            return after(now, how, n).news.size() - now.news.size();
        }

        int undo() {
            if (undos.isEmpty()) {
                return -1;
            }
            now = undos.remove(undos.size() - 1);
            return undos.size();
        }

        int keep() {
            image = now.copy();
            return now.day;
        }

        int back() {
            if (image == null) {
                return -1;
            }
            now = image.copy();
            undos.clear();
            return now.day;
        }

        int count(int what) {
            switch (what) {
                case 0: return story.people.size();
                case 1: return story.things.size();
                case 2: return story.ways.size();
                case 3: return story.tells.size();
                case 4: return story.knots;
                case 5: return now.day;
                case 6: return now.news.size();
                case 7: return now.have.size();
                case 8: return now.prints.size();
                case 9: return now.space;
                case 10: return now.idle;
                case 11: return seen.size();
                case 12: return knownCount();
                case 13: return undos.size();
                default: return -1;
            }
        }
    }
}
