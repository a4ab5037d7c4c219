import java.io.IOException;
import java.lang.reflect.Executable;
import java.lang.reflect.Field;
import java.lang.reflect.Method;
import java.lang.reflect.Modifier;
import java.nio.file.Files;
import java.nio.file.Path;
import java.util.ArrayList;
import java.util.Arrays;
import java.util.HashSet;
import java.util.List;
import java.util.Set;
import java.util.regex.Matcher;
import java.util.regex.Pattern;

/** Rules of LANGUAGE.md that can be seen in the text of the class or in its compiled form. */
final class LanguageTest {
    private static final Check CHECK = new Check("LanguageTest");
    private static final Path SOURCE = Path.of("src/main/java/GrantNet.java");
    /** Rules 2, 5, 6, 8, 12 and 13: what stands nowhere. */
    private static final String[] NOWHERE = {"->", "::", "static\\s*\\{", "\\bfinally\\b", "\\bsynchronized\\b",
        "\\bassert\\b", "\\bprotected\\b", "\\bpackage\\b", "\\btry\\b", "\\bnative\\b", "\\bvolatile\\b", "\\bThread\\b",
        "\\bRandom\\b", "\\bSystem\\.(?!arraycopy\\b)", "Exact\\b", "\\.equals\\(", "\\bhashCode\\b", "\\btoString\\b",
        "\\bObject\\b", "\\bdouble\\b", "\\bfloat\\b", "\\bjava\\.(?!util\\.)"};

    public static void main(String[] args) throws IOException {
        String text = withoutComments(Files.readString(SOURCE));
        for (String pattern : NOWHERE) {
            CHECK.due(pattern + " stands nowhere", Pattern.compile(pattern).matcher(text).find(), false);
        }
        CHECK.due("imports", count(text, "\\bimport\\b"), count(text, "\\bimport java\\.util\\.(Arrays|ArrayList|List);"));
        CHECK.due("throws", count(text, "\\bthrow\\b"), count(text, "throw new IllegalArgumentException\\("));
        CHECK.due("characters up to 255", text.chars().allMatch(c -> c <= 255), true);
        methodsAreShort(text);
        classesAreSmall();
        CHECK.end();
    }

    private static String withoutComments(String text) {
        return text.replaceAll("(?s)/\\*.*?\\*/", "").replaceAll("//[^\n]*", "");
    }

    private static int count(String text, String pattern) {
        int found = 0;
        Matcher m = Pattern.compile(pattern).matcher(text);
        while (m.find()) {
            found++;
        }
        return found;
    }

    /** Rule 11: some sixty lines a method. */
    private static void methodsAreShort(String text) {
        Matcher m = Pattern.compile("(?m)^( +)[\\w<>\\[\\] ]+\\([^;{]*\\)[^;{]*\\{$").matcher(text);
        int longest = 0;
        while (m.find()) {
            int end = text.indexOf("\n" + m.group(1) + "}", m.start());
            longest = Math.max(longest, (int) text.substring(m.start(), end).lines().count() + 1);
        }
        CHECK.due("there are methods", longest > 10, true);
        CHECK.due("the longest has at most 60 lines", longest <= 60, true);
    }

    /** Rules 1 and 11: names, parameters, fields, classes. */
    private static void classesAreSmall() {
        List<Class<?>> all = new ArrayList<>(Arrays.asList(GrantNet.class.getDeclaredClasses()));
        all.add(GrantNet.class);
        CHECK.due("at most twelve classes", all.size() <= 12, true);
        Set<String> face = new HashSet<>();
        for (Method m : GrantNet.class.getDeclaredMethods()) {
            if (Modifier.isPublic(m.getModifiers())) {
                face.add(m.getName());
            }
        }
        for (Class<?> c : all) {
            int fields = 0;
            for (Field f : c.getDeclaredFields()) {
                fields += Modifier.isStatic(f.getModifiers()) ? 0 : 1;
            }
            CHECK.due(c + " has at most twenty fields", fields <= 20, true);
            List<Executable> bodies = new ArrayList<>(Arrays.asList(c.getDeclaredMethods()));
            bodies.addAll(Arrays.asList(c.getDeclaredConstructors()));
            for (Executable e : bodies) {
                CHECK.due(e + " takes at most seven", e.getParameterCount() <= 7, true);
                boolean bearsName = Modifier.isPrivate(e.getModifiers()) && face.contains(e.getName());
                CHECK.due(e + " bears the name of a public one", bearsName, false);
            }
        }
    }
}
