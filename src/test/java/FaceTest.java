import java.lang.reflect.Constructor;
import java.lang.reflect.Field;
import java.lang.reflect.Method;
import java.lang.reflect.Modifier;
import java.nio.file.Files;
import java.nio.file.Path;
import java.util.Arrays;
import java.util.Set;
import java.util.TreeSet;
import java.util.regex.Matcher;
import java.util.regex.Pattern;

/** The public face, and the rules of LANGUAGE.md that can be seen without reading the code. */
public final class FaceTest {
    private static final Due DUE = new Due();
    private static final String[] FACE = {
        "monk(boolean,int)", "away(int,int,int)", "feast(int,int)", "held(int)", "when(int)",
        "light(int,int)", "office(int,int)", "late(int,int,int)", "feed(int,int,int,int,int)",
        "rule(int)", "fault()", "fast(int,int)", "gift(boolean,int,boolean)", "leave(int,int,int)",
        "giftOf(int,int)", "store(int)", "guests(int,int)", "day()", "turn(int,int)",
        "turns(int,int)", "fail(int)", "dayOf(int,int)", "count(int)"};
    private static final String[] RULED_OUT = {"throw", "throws", "try", "catch", "synchronized",
        "assert", "import", "package", "protected", "->", "::"};

    public static void main(String[] args) throws Exception {
        members();
        nested(AbbeyHours.class);
        source(Files.readString(Path.of(args[0])));
        DUE.end();
    }

    private static void members() {
        Set<String> seen = new TreeSet<>();
        for (Method m : AbbeyHours.class.getDeclaredMethods()) {
            if (!Modifier.isPrivate(m.getModifiers())) {
                seen.add(signature(m));
                DUE.holds(m + " is not public int", m.getReturnType() == int.class
                        && Modifier.isPublic(m.getModifiers()) && !Modifier.isStatic(m.getModifiers()));
            }
        }
        DUE.holds("the methods are " + seen, seen.equals(new TreeSet<>(Arrays.asList(FACE))));
        for (Field f : AbbeyHours.class.getDeclaredFields()) {
            DUE.holds(f + " can be seen", Modifier.isPrivate(f.getModifiers()) || f.getName().equals("NONE"));
        }
        Constructor<?>[] made = AbbeyHours.class.getDeclaredConstructors();
        DUE.holds("one public constructor without parameters", made.length == 1
                && Modifier.isPublic(made[0].getModifiers()) && made[0].getParameterCount() == 0);
        int modifiers = AbbeyHours.class.getModifiers();
        DUE.holds("public and final", Modifier.isPublic(modifiers) && Modifier.isFinal(modifiers));
        DUE.is("NONE", AbbeyHours.NONE, -1);
    }

    private static String signature(Method m) {
        StringBuilder text = new StringBuilder(m.getName()).append('(');
        for (Class<?> type : m.getParameterTypes()) {
            text.append(text.charAt(text.length() - 1) == '(' ? "" : ",").append(type.getName());
        }
        return text.append(')').toString();
    }

    private static void nested(Class<?> outer) {
        Set<String> publicNames = new TreeSet<>();
        for (String method : FACE) {
            publicNames.add(method.substring(0, method.indexOf('(')));
        }
        DUE.holds("at most twelve classes", outer.getDeclaredClasses().length < 12);
        for (Class<?> inside : outer.getDeclaredClasses()) {
            DUE.holds(inside + " is not static", Modifier.isStatic(inside.getModifiers()));
            for (Method m : inside.getDeclaredMethods()) {
                DUE.holds(m + " bears a public name", !publicNames.contains(m.getName()));
                DUE.holds(m + " has over seven parameters", m.getParameterCount() <= 7);
            }
            int fields = 0;
            for (Field f : inside.getDeclaredFields()) {
                fields += Modifier.isStatic(f.getModifiers()) ? 0 : 1;
            }
            DUE.holds(inside + " has over twenty fields", fields <= 20);
        }
    }

    private static void source(String text) {
        String code = text.replaceAll("(?s)/\\*.*?\\*/", " ").replaceAll("//[^\n]*", " ");
        for (String word : RULED_OUT) {
            String pattern = Character.isLetter(word.charAt(0)) ? "\\b" + word + "\\b" : Pattern.quote(word);
            Matcher found = Pattern.compile(pattern).matcher(code);
            DUE.holds("the source holds '" + word + "'", !found.find());
        }
    }
}
