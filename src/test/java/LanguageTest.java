import java.lang.reflect.Field;
import java.lang.reflect.Method;
import java.lang.reflect.Modifier;
import java.util.Arrays;
import java.util.Set;
import java.util.TreeSet;
import java.util.regex.Matcher;
import java.util.regex.Pattern;

/** The class has the document's face and no other, and keeps to the rules of ../shared/LANGUAGE.md that a test can see. */
public final class LanguageTest {
    private static final Check check = new Check();

    private static Set<String> faceOfDocument() {
        String document = Project.read(Project.DOCUMENT);
        int from = document.indexOf("```java");
        String block = document.substring(from, document.indexOf("```", from + 3));
        Matcher m = Pattern.compile("public (\\w+) (\\w+)\\((.*?)\\)(?: throws (.*?))?;").matcher(block);
        Set<String> face = new TreeSet<>();
        while (m.find()) {
            String types = m.group(3).replaceAll("(\\w+) \\w+", "$1");
            face.add(m.group(1) + " " + m.group(2) + "(" + types + ") " + (m.group(4) == null ? "" : m.group(4)));
        }
        return face;
    }

    private static String names(Class<?>[] types) {
        return String.join(", ", Arrays.stream(types).map(Class::getSimpleName).toArray(String[]::new));
    }

    private static void face() {
        Set<String> face = new TreeSet<>();
        Set<String> publicNames = new TreeSet<>();
        for (Method m : SlideBonfire.class.getDeclaredMethods()) {
            if (Modifier.isPublic(m.getModifiers())) {
                face.add(m.getReturnType() + " " + m.getName() + "(" + names(m.getParameterTypes()) + ") "
                    + names(m.getExceptionTypes()));
                publicNames.add(m.getName());
            } else {
                check.yes("rule 1: private " + m.getName(), Modifier.isPrivate(m.getModifiers()));
            }
        }
        check.sameText("the public face", face.toString(), faceOfDocument().toString());
        check.same("63 methods", publicNames.size(), 63);
        check.yes("rule 1: public and final", (SlideBonfire.class.getModifiers() & (Modifier.PUBLIC | Modifier.FINAL))
            == (Modifier.PUBLIC | Modifier.FINAL));
        for (Field f : SlideBonfire.class.getDeclaredFields()) {
            check.yes("rule 1: private " + f.getName(), Modifier.isPrivate(f.getModifiers()));
        }
        othersDoNotBearItsNames(SlideBonfire.class, publicNames);
        for (Class<?> inner : SlideBonfire.class.getDeclaredClasses()) {
            othersDoNotBearItsNames(inner, publicNames);
        }
    }

    private static void othersDoNotBearItsNames(Class<?> type, Set<String> publicNames) {
        for (Method m : type.getDeclaredMethods()) {
            boolean isOfFace = type == SlideBonfire.class && Modifier.isPublic(m.getModifiers());
            check.yes("rule 1: name " + m.getName(), isOfFace || !publicNames.contains(m.getName()));
            check.yes("rule 11: parameters of " + m.getName(), m.getParameterCount() <= 7);
        }
    }

    private static void sizes() {
        Class<?>[] inner = SlideBonfire.class.getDeclaredClasses();
        check.yes("rule 11: classes", inner.length + 1 <= 12);
        for (Class<?> type : inner) {
            check.yes("rule 1: static " + type, Modifier.isStatic(type.getModifiers()));
            check.yes("rule 1: not public " + type, !Modifier.isPublic(type.getModifiers()));
            long fields = Arrays.stream(type.getDeclaredFields()).filter(f -> !Modifier.isStatic(f.getModifiers())).count();
            check.yes("rule 11: fields of " + type, fields <= 20);
        }
    }

    private static void staticFields(Class<?> type) {
        Set<Class<?>> allowed = Set.of(int.class, long.class, boolean.class, char.class, String.class,
            int[].class, long[].class, char[].class, byte[].class);
        for (Field f : type.getDeclaredFields()) {
            if (Modifier.isStatic(f.getModifiers())) {
                check.yes("rule 5: final " + f.getName(), Modifier.isFinal(f.getModifiers()));
                check.yes("rule 5: type of " + f.getName(), allowed.contains(f.getType()));
            }
        }
    }

    private static void words() {
        String source = Project.read(Project.SOURCE).replaceAll("(?s)/\\*.*?\\*/", "").replaceAll("//.*", "");
        String[] strange = {"\\bimport\\b", "\\bpackage\\b", "\\btry\\b", "\\bcatch\\b", "\\bfinally\\b", "\\bassert\\b",
            "\\bsynchronized\\b", "->", "::", "\\bDouble\\b", "\\bFloat\\b", "\\bSystem\\b", "\\bThread\\b", "\\bRandom\\b",
            "\\bObject\\b", "Exact\\b", "\\bgetMessage\\b", "\\binstanceof\\b", "\\bMath\\b", "\"", "@"};
        for (String word : strange) {
            check.no("a word that the program does without: " + word, Pattern.compile(word).matcher(source).find());
        }
        Matcher thrown = Pattern.compile("throw new (\\w+)\\(\\)").matcher(source);
        while (thrown.find()) {
            check.yes("rule 6: " + thrown.group(1), Set.of("IllegalStateException", "IllegalArgumentException",
                "IndexOutOfBoundsException").contains(thrown.group(1)));
        }
    }

    public static void main(String[] args) {
        face();
        sizes();
        staticFields(SlideBonfire.class);
        for (Class<?> inner : SlideBonfire.class.getDeclaredClasses()) {
            staticFields(inner);
        }
        words();
        check.end();
    }
}
