import java.io.IOException;
import java.lang.reflect.Field;
import java.lang.reflect.Method;
import java.lang.reflect.Modifier;
import java.nio.file.Files;
import java.nio.file.Path;
import java.util.Arrays;
import java.util.Set;
import java.util.TreeSet;
import java.util.regex.Pattern;

/** Holds PulledSignals.java against those rules of LANGUAGE.md that can be seen from outside. */
public final class LanguageTest {
    private static final String FACE = "row/3 set/3 copy/5 element/2 holds/1 show/2 says/2 feed/1 wipe/0 source/2 "
            + "scope/1 memo/1 effect/1 reform/1 write/2 begin/0 end/0 dispose/1 read/1 kept/1 cellOf/2 reads/2 "
            + "spelled/2 plain/1 whatIf/3 aim/3 news/2 reaches/2 colours/1 signs/3 log/1 logged/1 disposed/1 "
            + "queued/1 judge/2 days/1 seed/1 image/0 back/0 status/1";
    private static final String LONGS = " element read kept plain whatIf logged ";
    private static final String[] FORBIDDEN = {"->", "::", "\\btry\\b", "\\bcatch\\b", "\\bfinally\\b",
        "\\bsynchronized\\b", "\\bassert\\b", "\\bimport\\b", "\\bpackage\\b", "static\\s*\\{", "\\bthrow\\b",
        "\\bvar\\b", "\\bdouble\\b", "\\bfloat\\b", "\\bString\\b", "\\bObject\\b", "\\byield\\b", "Exact\\b",
        "\\.equals\\(", "\\.hashCode\\(", "\\.toString\\(", "\\bwhile\\b", "\\bSystem\\b", "\\binstanceof\\b"};

    private static int wrong = 0;

    public static void main(String[] args) throws IOException {
        String source = Files.readString(Path.of(args.length > 0 ? args[0] : "src/main/java/PulledSignals.java"));
        theFace();
        theClasses();
        theWords(source);
        theLengths(source);
        System.out.println("LanguageTest: " + wrong + " wrong");
        if (wrong != 0) {
            System.exit(1);
        }
    }

    private static void wrong(String told) {
        wrong++;
        System.out.println("LanguageTest: " + told);
    }

    private static void theFace() {
        Set<String> face = new TreeSet<>();
        Set<String> own = new TreeSet<>();
        for (Method m : PulledSignals.class.getDeclaredMethods()) {
            if (Modifier.isPublic(m.getModifiers())) {
                face.add(m.getName() + "/" + m.getParameterCount());
                Class<?> due = LONGS.contains(" " + m.getName() + " ") ? long.class : int.class;
                if (m.getReturnType() != due) {
                    wrong(m.getName() + " answers " + m.getReturnType());
                }
            } else if (Modifier.isPrivate(m.getModifiers())) {
                own.add(m.getName());
            } else {
                wrong(m.getName() + " is neither public nor private");
            }
        }
        if (!face.equals(new TreeSet<>(Arrays.asList(FACE.split(" "))))) {
            wrong("the face is " + face);
        }
        for (String name : own) {
            if ((" " + FACE).contains(" " + name + "/")) {
                wrong("private " + name + " bears the name of a public one");
            }
        }
    }

    private static void theClasses() {
        Class<?>[] inside = PulledSignals.class.getDeclaredClasses();
        if (inside.length > 12) {
            wrong(inside.length + " classes");
        }
        for (Field f : PulledSignals.class.getDeclaredFields()) {
            if (!Modifier.isPrivate(f.getModifiers()) && !f.getName().equals("NONE")) {
                wrong("field " + f.getName() + " is not private");
            }
        }
        oneClass(PulledSignals.class);
        for (Class<?> c : inside) {
            if (!Modifier.isStatic(c.getModifiers()) || Modifier.isPublic(c.getModifiers())) {
                wrong("class " + c.getName() + " is public or not static");
            }
            oneClass(c);
        }
    }

    private static void oneClass(Class<?> c) {
        int fields = 0;
        for (Field f : c.getDeclaredFields()) {
            if (!Modifier.isStatic(f.getModifiers())) {
                fields++;
            } else if (!Modifier.isFinal(f.getModifiers())) {
                wrong(c.getName() + "." + f.getName() + " is static and not final");
            }
        }
        if (fields > 20) {
            wrong(c.getName() + " has " + fields + " fields");
        }
        for (Method m : c.getDeclaredMethods()) {
            if (m.getParameterCount() > 7) {
                wrong(c.getName() + "." + m.getName() + " takes " + m.getParameterCount());
            }
        }
    }

    private static void theWords(String source) {
        String bare = source.replaceAll("(?s)/\\*.*?\\*/", "").replaceAll("//[^\n]*", "").replaceAll("'[^']*'", "0");
        for (String word : FORBIDDEN) {
            if (Pattern.compile(word).matcher(bare).find()) {
                wrong("the source has " + word);
            }
        }
    }

    private static void theLengths(String source) {
        String[] lines = source.split("\n");
        int from = -1;
        for (int i = 0; i < lines.length; i++) {
            if (lines[i].length() > 110) {
                wrong("line " + (i + 1) + " is long");
            }
            if (lines[i].matches(" {4}( {4})?[A-Za-z].*\\) \\{")) {
                from = i;
            }
            if (lines[i].matches(" {4}( {4})?\\}") && from >= 0 && i - from > 60) {
                wrong("the method at line " + (from + 1) + " is long");
            }
        }
    }
}
