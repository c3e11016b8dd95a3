import java.io.IOException;
import java.lang.reflect.InvocationTargetException;
import java.lang.reflect.Method;
import java.nio.charset.StandardCharsets;
import java.nio.file.Files;
import java.nio.file.Path;
import java.util.ArrayList;
import java.util.Comparator;
import java.util.List;
import java.util.NoSuchElementException;
import java.util.regex.Matcher;
import java.util.regex.Pattern;

/** What the tests have in common: texts put on the tape, answers held against what is due, tests found by their names. */
abstract class Check {
    static final long ERROR = Long.MIN_VALUE;

    /** Four people and two things: bo hears the fire from ann, di from cy; it is news on day 3. */
    static final String TOWN = "man ann 2;man bo 3;man cy 0;man di 5;thing fire 0 10;thing marsh 2 40;"
            + "sees ann fire;sees cy fire;sees di marsh;way ann bo 1;way bo cy 2;way cy di 1;"
            + "tell bo fire 2;tell ann fire 3;tell cy fire 3;tell di fire 4;";

    /**
     * Four people, two things: dot hears the mill from bea on day 2, cal from al on day 3; the well bea hears from cal on day 4,
     * al from dot on day 6; the mill is news on day 4, by cal (21) and dot (24), the well on day 9, by cal (60) and al (62).
     */
    static final String MILL = "man al 1;man bea 4;man cal 7;man dot 2;thing mill 1 20;thing well 3 60;"
            + "sees al mill;sees bea mill;sees cal well;sees dot well;way al cal 2;way bea dot 1;way cal bea 1;way dot al 3;"
            + "tell cal mill 4;tell dot mill 4;tell dot well 5;tell cal well 6;tell al well 9;";

    static final String SEVEN = "man a 1;man b 1;man c 1;man d 1;man e 1;man f 1;man g 1;";
    static final String SIX = "thing a 1 1;thing b 1 1;thing c 1 1;thing d 1 1;thing e 1 1;thing f 1 1;";

    /** Numbers that no person, thing or what has; 31, 32, 64 as a shift by them comes round again. */
    static final int[] NO_NUMBERS = {-1, -2, 31, 32, 64, Integer.MIN_VALUE, Integer.MAX_VALUE};

    private static final Path DOCUMENT = Path.of("../shared/DOC.md");
    private static final Pattern NAME = Pattern.compile("promise(\\d+)_\\w+");

    private static int wrong = 0;
    static String promise = "";

    static void due(String call, long got, long want) {
        if (got != want) {
            complain(call + " answered " + got + ", due is " + want);
        }
    }

    static void due(String call, boolean got, boolean want) {
        due(call, got ? 1 : 0, want ? 1 : 0);
    }

    static void due(String call, String got, String want) {
        if (!got.equals(want)) {
            complain(call + " answered " + got + ", due is " + want);
        }
    }

    private static void complain(String what) {
        wrong++;
        System.out.println(promise + ": " + what);
    }

    static void end() {
        System.out.println(wrong == 0 ? "all answers are as due" : wrong + " answers are not as due");
        if (wrong != 0) {
            System.exit(1);
        }
    }

    static int feedAll(SecondTelling x, String text) {
        byte[] bytes = text.getBytes(StandardCharsets.ISO_8859_1);
        for (int at = 0; at < bytes.length; at += 20) {
            int[] five = new int[5];
            for (int i = 0; i < 20; i++) {
                int b = at + i < bytes.length ? bytes[at + i] & 255 : 32;
                five[i / 4] |= b << 8 * (3 - i % 4);
            }
            x.feed(five[0], five[1], five[2], five[3], five[4]);
        }
        return bytes.length;
    }

    static int load(SecondTelling x, String text) {
        return x.text(feedAll(x, text));
    }

    static SecondTelling of(String text) {
        SecondTelling x = new SecondTelling();
        due("text " + text, load(x, text) >= 0, true);
        return x;
    }

    static SecondTelling of(String text, int days) {
        SecondTelling x = of(text);
        due("go " + days, x.go(days), days);
        return x;
    }

    static void faulty(String text, int kind, int place) {
        SecondTelling x = new SecondTelling();
        due("text " + text, load(x, text), -1);
        due("fault(0) of " + text, x.fault(0), kind);
        due("fault(1) of " + text, x.fault(1), place);
    }

    static void fine(String text, int lines) {
        SecondTelling x = new SecondTelling();
        due("text " + text, load(x, text), lines);
        due("fault(0) of " + text, x.fault(0), 0);
        due("fault(1) of " + text, x.fault(1), -1);
    }

    static int letters(String name) {
        int code = 0;
        for (int i = 0; i < 6; i++) {
            code = code << 5 | (i < name.length() ? name.charAt(i) - 'a' + 1 : 0);
        }
        return code;
    }

    static String many(String text, int times) {
        return text.repeat(times);
    }

    /** 0: nothing is thrown, 1: IndexOutOfBoundsException, 2: NoSuchElementException, 3: another one. */
    static int thrown(SecondTelling x, int thing, int what) {
        try {
            x.thing(thing, what);
            return 0;
        } catch (IndexOutOfBoundsException e) {
            return e.getClass() == IndexOutOfBoundsException.class ? 1 : 3;
        } catch (NoSuchElementException e) {
            return e.getClass() == NoSuchElementException.class ? 2 : 3;
        } catch (RuntimeException e) {
            return 3;
        }
    }

    /** All that can be read off without a change but for the image: some 14 calls and 11 for each person and thing. */
    static String stateOf(SecondTelling x) {
        StringBuilder all = new StringBuilder();
        for (int what = 0; what <= 13; what++) {
            all.append(x.count(what)).append(' ');
        }
        for (int thing = 0; thing < x.count(1); thing++) {
            for (int what = 0; what <= 4; what++) {
                all.append(x.thing(thing, what)).append(' ');
            }
            for (int man = 0; man < x.count(0); man++) {
                for (int what = 0; what <= 4; what++) {
                    all.append(x.has(man, thing, what)).append(' ');
                }
            }
        }
        return all.toString();
    }

    /** The numbers of the document, from a seed on: the n-th (from 1 on) modulo 100. */
    static int numberOfHundred(long seed, int n) {
        long last = seed;
        for (int i = 0; i < n; i++) {
            last = (last * 1103515245L + 12345L) % 2147483648L;
        }
        return (int) (last / 65536 % 100);
    }

    /** Runs each test of a class, by promises; from the first to the last of them each must have one. */
    static void runAll(Class<?> tests, int first, int last) throws IOException, IllegalAccessException {
        String document = Files.exists(DOCUMENT) ? Files.readString(DOCUMENT) : "";
        List<Method> all = new ArrayList<>();
        boolean[] tested = new boolean[last + 1];
        for (Method m : tests.getDeclaredMethods()) {
            Matcher name = NAME.matcher(m.getName());
            if (name.matches()) {
                all.add(m);
                int number = Integer.parseInt(name.group(1));
                promise = m.getName();
                if (number < first || number > last) {
                    complain("stands in the wrong class");
                } else {
                    tested[number] = true;
                }
                checkWords(m, number, document);
            }
        }
        for (int number = first; number <= last; number++) {
            promise = "promise" + number;
            due("has a test", tested[number], true);
        }
        all.sort(Comparator.comparing(Method::getName));
        for (Method m : all) {
            runOne(m);
        }
        System.out.println(tests.getName() + ": " + all.size() + " tests");
        end();
    }

    private static void runOne(Method m) throws IllegalAccessException {
        promise = m.getName();
        m.setAccessible(true);
        try {
            m.invoke(null);
        } catch (InvocationTargetException e) {
            complain("threw " + e.getCause());
        }
    }

    /** A test's words stand under its promise or ahead of all promises, else it tests what nobody asked for. */
    private static void checkWords(Method m, int number, String document) {
        Says says = m.getAnnotation(Says.class);
        if (says == null) {
            complain("quotes no words of the document");
        } else if (!document.isEmpty()) {
            String terms = section(document, "# SecondTelling", "## Promise 1:");
            String own = section(document, "## Promise " + number + ":", "## ");
            boolean stands = terms.contains(says.value()) || own.contains(says.value());
            due("words stand in the document: " + says.value(), stands, true);
        }
    }

    private static String section(String document, String head, String next) {
        int from = document.indexOf(head);
        if (from < 0) {
            return "";
        }
        int to = document.indexOf(next, from + head.length());
        return document.substring(from, to < 0 ? document.length() : to).replaceAll("\\s+", " ");
    }
}
