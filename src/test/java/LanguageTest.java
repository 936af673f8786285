import java.io.IOException;
import java.lang.reflect.Constructor;
import java.lang.reflect.Field;
import java.lang.reflect.Method;
import java.lang.reflect.Modifier;
import java.nio.file.Files;
import java.nio.file.Path;
import java.util.Arrays;
import java.util.Set;
import java.util.TreeSet;
import java.util.regex.Matcher;
import java.util.regex.Pattern;

/** The face of the class, and those rules of LANGUAGE.md that can be seen by looking for words. */
public final class LanguageTest {
    private static final Due D = new Due("LanguageTest");
    private static final String SOURCE = "src/main/java/WinterStation.java";
    private static final Set<String> FACE = new TreeSet<>(Arrays.asList(
            "weather(int,int,int,boolean,int)", "hour(int,int)", "engine(int,int,int)", "mill(int,int)",
            "demand(int,int)", "on(int)", "plan(int)", "planned(int,int)", "box(int,int)", "take(int)",
            "stack(int,int)", "person(int)", "ill(int,int,int)", "work(int,int,int,int)", "schedule()",
            "begins(int,int)", "feed(int,int,int,int,int)", "end(int)", "rules()", "fault()",
            "radio(int,int,int)", "message(int,int)", "fail(int,int)", "go(int)", "sent(int,int)",
            "arrived(int,int)", "land(int)", "count(int)", "status()"));

    public static void main(String[] args) throws IOException {
        face();
        insideClasses();
        words(Files.readString(Path.of(SOURCE)));
        D.end();
    }

    private static void face() {
        Set<String> visible = new TreeSet<>();
        for (Method m : WinterStation.class.getDeclaredMethods()) {
            String name = m.getName() + Arrays.toString(m.getParameterTypes()).replace("[", "(")
                    .replace("]", ")").replace(" ", "");
            if (!Modifier.isPrivate(m.getModifiers())) {
                visible.add(name);
                same(name + " is public and answers an int", Modifier.isPublic(m.getModifiers())
                        && m.getReturnType() == int.class && !Modifier.isStatic(m.getModifiers()));
            }
        }
        same("the methods are " + visible, visible.equals(FACE));
        Constructor<?>[] made = WinterStation.class.getDeclaredConstructors();
        same("one public constructor", made.length == 1 && made[0].getParameterCount() == 0
                && Modifier.isPublic(made[0].getModifiers()));
        for (Field f : WinterStation.class.getDeclaredFields()) {
            same(f.getName() + " is private", Modifier.isPrivate(f.getModifiers()) || f.getName().equals("NONE"));
        }
        same("final", Modifier.isFinal(WinterStation.class.getModifiers()));
    }

    private static void insideClasses() {
        Class<?>[] inside = WinterStation.class.getDeclaredClasses();
        same("at most twelve classes", inside.length < 12);
        Set<String> names = new TreeSet<>();
        FACE.forEach(one -> names.add(one.substring(0, one.indexOf('('))));
        for (Class<?> c : inside) {
            same(c + " is private and static", Modifier.isPrivate(c.getModifiers())
                    && Modifier.isStatic(c.getModifiers()));
            int fields = 0;
            for (Field f : c.getDeclaredFields()) {
                fields += Modifier.isStatic(f.getModifiers()) ? 0 : 1;
            }
            same(c + " has at most twenty fields", fields <= 20);
            for (Method m : c.getDeclaredMethods()) {
                same(m + " bears a name of its own", !names.contains(m.getName()));
                same(m + " has at most seven parameters", m.getParameterCount() <= 7);
            }
        }
    }

    private static void words(String text) {
        String code = text.replaceAll("(?s)/\\*.*?\\*/", "").replaceAll("//[^\n]*", "");
        String[] none = {"throw", "throws", "try", "catch", "synchronized", "assert", "import", "package",
            "static\\s*\\{", "->", "::", "String\\s*\\[", "Integer\\.[A-Z]", "Math\\.\\w*Exact", "var",
            "hashCode", "toString", "System\\.(?!arraycopy)", "Object"};
        for (String word : none) {
            Matcher m = Pattern.compile(Character.isLetter(word.charAt(0)) ? "\\b" + word + "\\b|\\b" + word
                    + "(?=\\W)" : word).matcher(code);
            same("no " + word, !m.find());
        }
        for (String line : code.split("\n")) {
            same("made with the object and used again: " + line, !line.matches(".*\\bnew\\b.*")
                    || line.trim().startsWith("private "));
        }
        Matcher method = Pattern.compile("(?ms)^( +)[\\w\\[\\] ]+\\([\\w ,\\[\\]]*\\) \\{$.*?^\\1\\}").matcher(code);
        int found = 0;
        while (method.find()) {
            found++;
            same("at most sixty lines: " + method.group().lines().findFirst(), method.group().lines().count() <= 60);
        }
        same("methods were found", found > 60);
    }

    private static void same(String what, boolean holds) {
        D.due(what, holds ? 1 : 0, 1);
    }
}
