import java.io.IOException;
import java.lang.reflect.Field;
import java.lang.reflect.Method;
import java.lang.reflect.Modifier;
import java.nio.charset.StandardCharsets;
import java.nio.file.Files;
import java.nio.file.Path;
import java.util.Arrays;
import java.util.HashSet;
import java.util.Set;
import java.util.TreeSet;
import java.util.regex.Matcher;
import java.util.regex.Pattern;

/** The document's face and no other, and the rules of LANGUAGE.md that a look at the class and its text can show. */
public final class FaceTest {
    private static final String[] FACE = {
        "int thing(int,int,int,int)", "int convoy(int,int,int)", "boolean set(int,int,int)", "int least()",
        "int share(int)", "int settle()", "boolean late(int,int)", "int road(int,int,int)",
        "int place(int,int,int)", "int lacks(int,int)", "int many(int,int,int)",
        "int stage(int,int,int,boolean)", "boolean begin(int)", "boolean fail(int)", "int tick(int)",
        "int told(int,int)", "int back()", "int whole()", "int ready()", "int find()", "boolean close(int)",
        "int feed(int)", "boolean end(int)", "int fault()", "boolean rule()", "int go()", "int count(int)",
    };
    private static final String[] NOT_ALLOWED = {
        "throw", "throws", "try", "catch", "synchronized", "assert", "import", "package", "System", "Exception",
        "hashCode", "toString", "native", "volatile", "transient", "strictfp", "protected",
    };

    public static void main(String[] args) throws IOException {
        face();
        classesInside();
        text();
        Check.finish();
    }

    private static void face() {
        Class<?> c = NightMove.class;
        Check.due("public and final", Modifier.isPublic(c.getModifiers()) && Modifier.isFinal(c.getModifiers()), true);
        Set<String> seen = new TreeSet<>();
        Set<String> publicNames = new HashSet<>();
        for (Method method : c.getDeclaredMethods()) {
            if (!Modifier.isPrivate(method.getModifiers())) {
                seen.add(signature(method));
                publicNames.add(method.getName());
                Check.due(method + " is public", Modifier.isPublic(method.getModifiers()), true);
                Check.due(method + " is static", Modifier.isStatic(method.getModifiers()), false);
            }
        }
        Check.due("the methods " + seen, seen.equals(new TreeSet<>(Arrays.asList(FACE))), true);
        for (Method method : c.getDeclaredMethods()) {
            boolean hidden = Modifier.isPrivate(method.getModifiers());
            Check.due(method + " has a public name", hidden && publicNames.contains(method.getName()), false);
        }
        for (Field field : c.getDeclaredFields()) {
            boolean isNone = field.getName().equals("NONE");
            Check.due(field + " is private", Modifier.isPrivate(field.getModifiers()), !isNone);
        }
        Check.due("constructors", c.getDeclaredConstructors().length, 1);
        Check.due("the constructor's parameters", c.getDeclaredConstructors()[0].getParameterCount(), 0);
        Check.due("the constructor is public", Modifier.isPublic(c.getDeclaredConstructors()[0].getModifiers()), true);
    }

    private static String signature(Method method) {
        StringBuilder text = new StringBuilder(method.getReturnType() + " " + method.getName() + "(");
        for (Class<?> type : method.getParameterTypes()) {
            text.append(text.charAt(text.length() - 1) == '(' ? "" : ",").append(type);
        }
        return text.append(")").toString();
    }

    private static void classesInside() {
        Set<String> publicNames = new HashSet<>();
        for (String row : FACE) {
            publicNames.add(row.substring(row.indexOf(' ') + 1, row.indexOf('(')));
        }
        Class<?>[] inside = NightMove.class.getDeclaredClasses();
        Check.due("at most twelve classes", inside.length < 12, true);
        for (Class<?> c : inside) {
            Check.due(c + " is static", Modifier.isStatic(c.getModifiers()), true);
            Check.due(c + " is public", Modifier.isPublic(c.getModifiers()), false);
            for (Method method : c.getDeclaredMethods()) {
                Check.due(method + " has a public name", publicNames.contains(method.getName()), false);
                Check.due(method + " takes at most seven", method.getParameterCount() <= 7, true);
            }
            Check.due(c + " has some twenty fields at most", fieldsOf(c) <= 20, true);
            for (Field field : c.getDeclaredFields()) {
                boolean changes = Modifier.isStatic(field.getModifiers()) && !Modifier.isFinal(field.getModifiers());
                Check.due(field + " is static and changes", changes, false);
            }
        }
    }

    private static int fieldsOf(Class<?> c) {
        int found = 0;
        for (Field field : c.getDeclaredFields()) {
            found += Modifier.isStatic(field.getModifiers()) ? 0 : 1;
        }
        return found;
    }

    private static void text() throws IOException {
        Path file = Path.of("src/main/java/NightMove.java");
        String source = Files.readString(file, StandardCharsets.US_ASCII);
        String code = source.replaceAll("(?s)/\\*.*?\\*/", " ").replaceAll("//[^\n]*", " ");
        for (String word : NOT_ALLOWED) {
            Matcher matcher = Pattern.compile("\\b" + word + "\\b").matcher(code);
            Check.due("the word " + word, matcher.find(), false);
        }
        Check.due("a lambda or a method reference", code.contains("->") || code.contains("::"), false);
    }
}
