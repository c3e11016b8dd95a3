import java.io.IOException;
import java.lang.reflect.Constructor;
import java.lang.reflect.Field;
import java.lang.reflect.Method;
import java.lang.reflect.Modifier;
import java.nio.file.Files;
import java.nio.file.Path;
import java.util.ArrayList;
import java.util.List;
import java.util.NoSuchElementException;
import java.util.TreeSet;
import java.util.regex.Matcher;
import java.util.regex.Pattern;

/** The document's face and those rules of LANGUAGE.md that can be read off the source or the class. */
public final class RulesTest {
    private static final String[] FACE = {
        "int feed(int,int,int,int,int)", "int text(int)", "int fault(int)", "int named(int,int)", "int thing(int,int)",
        "int has(int,int,int)", "int bent(int)", "long law(int,int,int,int)", "int hear(int,int,int)", "int tell(int,int)",
        "boolean forget(int,int)", "int go(int)", "int ahead(int,int,int)", "int when(int)", "int hears(int,int)",
        "int joined(int,int,int)", "int pairs(int)", "int reach(int)", "int hush(int)", "int spread()", "int lone()",
        "int match(int)", "int rests(int,int,int)", "int rest(int,int,int,int)", "long silent(int,int)",
        "int see(int,int,int,int,boolean)", "int strike(int)", "boolean known(int)", "int bents(int)", "int ask(int,int,int)",
        "int chance(int,int,int,int)", "int tried(int,int,int)", "int undo()", "int keep()", "int back()", "int count(int)"};
    private static final String[] FORBIDDEN = {
        "->", "::", "Exact\\(", "\\bfinally\\b", "\\bsynchronized\\b", "\\bassert\\b", "\\btry\\b", "\\bcatch\\b", "\\bnull\\b",
        "\\bString\\[", "\\bMath\\.random", "\\bdouble\\b", "\\bfloat\\b", "\\bpackage\\b", "\\bstatic \\{", "\\bhashCode\\b",
        "while \\(true\\)", "for \\(;;\\)"};

    private static int wrong = 0;

    public static void main(String[] args) throws IOException {
        theFace();
        innerClasses();
        String source = Files.readString(Path.of("src/main/java/SecondTelling.java"));
        forbiddenWords(source);
        rowsInConstructorsAlone(source);
        shortMethods(source);
        System.out.println(wrong == 0 ? "all rules are kept" : wrong + " rules are broken");
        if (wrong != 0) {
            System.exit(1);
        }
    }

    private static void must(boolean holds, String rule) {
        if (!holds) {
            wrong++;
            System.out.println(rule);
        }
    }

    private static void theFace() {
        TreeSet<String> due = new TreeSet<>(List.of(FACE));
        TreeSet<String> found = new TreeSet<>();
        TreeSet<String> hidden = new TreeSet<>();
        for (Method m : SecondTelling.class.getDeclaredMethods()) {
            if (Modifier.isPublic(m.getModifiers())) {
                found.add(signature(m));
                must(!Modifier.isStatic(m.getModifiers()), "static: " + m);
                List<Class<?>> thrown = m.getName().equals("thing")
                        ? List.of(IndexOutOfBoundsException.class, NoSuchElementException.class) : List.of();
                must(List.of(m.getExceptionTypes()).equals(thrown), "what it throws: " + m);
            } else {
                must(Modifier.isPrivate(m.getModifiers()), "neither public nor private: " + m);
                hidden.add(m.getName());
            }
        }
        must(found.equals(due), "the face is " + found + ", due is " + due);
        for (String s : due) {
            String name = s.substring(s.indexOf(' ') + 1, s.indexOf('('));
            must(!hidden.contains(name), "a private method bears a public one's name: " + name);
        }
        for (Field f : SecondTelling.class.getDeclaredFields()) {
            must(Modifier.isPrivate(f.getModifiers()) || f.getName().equals("NONE"), "not private: " + f);
            must(!Modifier.isStatic(f.getModifiers()) || Modifier.isFinal(f.getModifiers()), "static, not final: " + f);
        }
        must(SecondTelling.NONE == -1, "NONE isn't -1");
        must(Modifier.isFinal(SecondTelling.class.getModifiers()), "the class isn't final");
        Constructor<?>[] made = SecondTelling.class.getDeclaredConstructors();
        must(made.length == 1 && made[0].getParameterCount() == 0, "one constructor without parameters");
    }

    private static String signature(Method m) {
        StringBuilder s = new StringBuilder(m.getReturnType().getName() + " " + m.getName() + "(");
        for (int i = 0; i < m.getParameterCount(); i++) {
            s.append(i == 0 ? "" : ",").append(m.getParameterTypes()[i].getName());
        }
        return s.append(")").toString();
    }

    private static void innerClasses() {
        Class<?>[] inner = SecondTelling.class.getDeclaredClasses();
        must(inner.length < 12, "too many classes: " + inner.length);
        List<Class<?>> all = new ArrayList<>(List.of(inner));
        all.add(SecondTelling.class);
        for (Class<?> c : all) {
            must(c == SecondTelling.class || Modifier.isStatic(c.getModifiers()) && !Modifier.isPublic(c.getModifiers()), "inner: " + c);
            int fields = 0;
            for (Field f : c.getDeclaredFields()) {
                fields += Modifier.isStatic(f.getModifiers()) ? 0 : 1;
            }
            must(fields <= 20, "too many fields: " + c);
            for (Method m : c.getDeclaredMethods()) {
                must(m.getParameterCount() <= 7, "too many parameters: " + m);
                for (String s : FACE) {
                    boolean same = s.contains(" " + m.getName() + "(");
                    must(c == SecondTelling.class || !same, "an inner method bears a public one's name: " + m);
                }
            }
        }
    }

    private static void forbiddenWords(String source) {
        String code = source.replaceAll("(?s)/\\*.*?\\*/", "").replaceAll("//.*", "").replaceAll("\"[^\"]*\"", "\"\"");
        for (String word : FORBIDDEN) {
            Matcher m = Pattern.compile(word).matcher(code);
            must(!m.find(), "forbidden: " + word);
        }
        Matcher imports = Pattern.compile("import ([\\w.]+);").matcher(code);
        while (imports.find()) {
            must(imports.group(1).equals("java.util.NoSuchElementException"), "imported: " + imports.group(1));
        }
    }

    /** All calls of a run live in one room: what is made is made once. */
    private static void rowsInConstructorsAlone(String source) {
        boolean making = false;
        for (String line : source.split("\n")) {
            if (line.matches("^(    |        )(\\w.*)?\\{$")) {
                making = line.matches("^ +(public )?[A-Z]\\w*\\([^)]*\\) \\{$");
            }
            boolean makes = line.contains(" new ") && !line.contains("throw new") && !line.contains("/**");
            must(!makes || making, "made outside a constructor: " + line.trim());
        }
    }

    private static void shortMethods(String source) {
        String[] lines = source.split("\n");
        for (int i = 0; i < lines.length; i++) {
            if (lines[i].matches("^(    |        )\\w[^=]*\\).*\\{$")) {
                String end = lines[i].substring(0, lines[i].length() - lines[i].stripLeading().length()) + "}";
                int j = i;
                while (j < lines.length && !lines[j].equals(end)) {
                    j++;
                }
                must(j - i <= 60, "a long method: " + lines[i].trim());
            }
        }
    }
}
