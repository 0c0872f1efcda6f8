import java.io.IOException;
import java.lang.reflect.Constructor;
import java.lang.reflect.Field;
import java.lang.reflect.Method;
import java.lang.reflect.Modifier;
import java.nio.file.Files;
import java.nio.file.Path;
import java.util.Arrays;
import java.util.Set;
import java.util.TreeSet;
import java.util.regex.Matcher;
import java.util.regex.Pattern;

/** The face of the class, and those rules of LANGUAGE.md that a search of the source can see. */
public final class LanguageTest {
    private static final Check CHECK = new Check();
    private static final String[] FACE = {
        "int feed(int,int,int,int,int)", "int back(int)", "int read()", "int place()", "int house(int,int)", "int passed(int,int)",
        "boolean turn(int,boolean)", "boolean send(int)", "int carry(int,int)", "boolean change(int,int)", "int hours(int)",
        "boolean undo()", "int comes(int,int)", "int last(int)", "int sendFor(int)", "int apart(int)", "int code(int,int,int)",
        "int lost(int)", "int between(int,int,int)", "int widest(int,int)", "int same(int,int)", "int itself(int)",
        "int times(int,int)", "int bestHour(int,int)", "int breakAt(int)", "int loudest(int,int)", "int warm(int)", "int lives(int)",
        "int warmth(int)", "int then(int,int,int)", "int quiet(int,int)", "int mourn(int)", "int carryBest(int)", "int needs(int)",
        "int changeBest(int)", "int off(int)", "int year(int,int,int)", "int tell(int,int)", "int forget()", "int sent(int,int)",
        "int listen(int)", "boolean hold(int)", "boolean restore(int)", "int count(int)"};

    private static String told(Method method) {
        StringBuilder s = new StringBuilder(method.getReturnType().getName()).append(' ').append(method.getName()).append('(');
        for (Class<?> type : method.getParameterTypes()) {
            if (s.charAt(s.length() - 1) != '(') s.append(',');
            s.append(type.getName());
        }
        return s.append(')').toString();
    }

    private static void face() {
        Set<String> due = new TreeSet<>(Arrays.asList(FACE));
        Set<String> names = new TreeSet<>();
        for (String one : FACE) names.add(one.substring(one.indexOf(' ') + 1, one.indexOf('(')));
        Set<String> got = new TreeSet<>();
        for (Method method : HeardNext.class.getDeclaredMethods()) {
            if (Modifier.isPublic(method.getModifiers())) {
                got.add(told(method));
            } else {
                CHECK.yes("private: " + method.getName(), Modifier.isPrivate(method.getModifiers()));
                CHECK.no("another name: " + method.getName(), names.contains(method.getName()));
            }
        }
        CHECK.yes("the face: " + got, got.equals(due));
        CHECK.yes("public and final", Modifier.isPublic(HeardNext.class.getModifiers()) && Modifier.isFinal(HeardNext.class.getModifiers()));
        for (Field field : HeardNext.class.getDeclaredFields()) {
            CHECK.yes("field " + field.getName(), field.getName().equals("NONE") || Modifier.isPrivate(field.getModifiers()));
        }
        Constructor<?>[] makers = HeardNext.class.getDeclaredConstructors();
        CHECK.yes("one constructor", makers.length == 1 && makers[0].getParameterCount() == 0);
        CHECK.yes("at most twelve classes", HeardNext.class.getDeclaredClasses().length < 12);
        for (Class<?> inside : HeardNext.class.getDeclaredClasses()) {
            CHECK.yes("static: " + inside, Modifier.isStatic(inside.getModifiers()));
            for (Method method : inside.getDeclaredMethods()) {
                CHECK.no("another name: " + method.getName(), names.contains(method.getName()));
                CHECK.yes("seven parameters: " + method.getName(), method.getParameterCount() <= 7);
            }
            int fields = 0;
            for (Field field : inside.getDeclaredFields()) {
                CHECK.yes("static is final: " + field, !Modifier.isStatic(field.getModifiers()) || Modifier.isFinal(field.getModifiers()));
                if (!Modifier.isStatic(field.getModifiers())) fields++;
            }
            CHECK.yes("twenty fields: " + inside, fields <= 20);
        }
    }

    private static void source() throws IOException {
        String all = Files.readString(Path.of("src/main/java/HeardNext.java"));
        for (int i = 0; i < all.length(); i++) {
            if (all.charAt(i) > 126) CHECK.due("sign at " + i, 126, all.charAt(i));
        }
        String code = Pattern.compile("/\\*.*?\\*/", Pattern.DOTALL).matcher(all).replaceAll("")
            .replaceAll("//[^\n]*", "").replaceAll("\"[^\"\n]*\"", "\"\"").replaceAll("'[^'\n]*'", "' '");
        for (String word : new String[] {"throw", "throws", "try", "catch", "finally", "synchronized", "assert", "package", "native",
            "volatile", "transient", "protected", "Object", "hashCode", "toString", "Random", "Thread", "String\\.format"}) {
            CHECK.no("word " + word, Pattern.compile("\\b" + word + "\\b").matcher(code).find());
        }
        for (String sign : new String[] {"->", "::", "@", "Exact("}) CHECK.no("sign " + sign, code.contains(sign));
        Matcher library = Pattern.compile("\\b(Math|Integer|Long|Arrays|System|List|ArrayList)\\.(\\w+)").matcher(code);
        while (library.find()) {
            CHECK.yes("library " + library.group(), Set.of("Math.max", "Math.min", "Math.floorMod", "Integer.bitCount", "Arrays.fill",
                "System.arraycopy").contains(library.group()));
        }
        Matcher imports = Pattern.compile("import [^;]*;").matcher(code);
        while (imports.find()) CHECK.yes(imports.group(), imports.group().equals("import java.util.Arrays;"));
    }

    /** No method of some sixty lines or more, by the blank line that stands between any two. */
    private static void shortMethods() throws IOException {
        int lines = 0;
        for (String line : Files.readAllLines(Path.of("src/main/java/HeardNext.java"))) {
            lines = line.isBlank() || line.contains("static final") ? 0 : lines + 1;
            CHECK.yes("short: " + line, lines <= 60);
        }
    }

    /** Calls of all sorts at the edges, in the states that are most unlike: none may throw. */
    private static void edges() throws ReflectiveOperationException {
        int[] odd = {Integer.MIN_VALUE, -2, -1, 0, 1, 2, 8, 9, 10, 72, 73, 255, 256, Integer.MAX_VALUE};
        HeardNext[] all = {new HeardNext(), Check.terrace("house a 255 1;"), Check.terrace("house a 3 1;house b 3 1;dies=100;hums=day/hour;turns=part/0;")};
        for (HeardNext x : all) {
            for (Method method : HeardNext.class.getDeclaredMethods()) {
                if (!Modifier.isPublic(method.getModifiers())) continue;
                Class<?>[] types = method.getParameterTypes();
                for (int i = 0; i < odd.length * (types.length == 0 ? 0 : odd.length) + 1; i++) {
                    Object[] with = new Object[types.length];
                    for (int p = 0; p < with.length; p++) {
                        int k = p == 0 ? i % odd.length : (i / odd.length + p - 1) % odd.length;
                        with[p] = types[p] == boolean.class ? (Object) (k % 2 == 0) : (Object) odd[k];
                    }
                    method.invoke(x, with);
                }
            }
        }
    }

    public static void main(String[] args) throws IOException, ReflectiveOperationException {
        face();
        source();
        shortMethods();
        edges();
        CHECK.end();
    }
}
