import java.io.IOException;
import java.lang.reflect.Constructor;
import java.lang.reflect.Field;
import java.lang.reflect.Method;
import java.lang.reflect.Modifier;
import java.nio.file.Files;
import java.nio.file.Path;
import java.util.Arrays;
import java.util.HashSet;
import java.util.Set;
import java.util.TreeSet;
import java.util.regex.Matcher;
import java.util.regex.Pattern;

/** The public face, and such rules of LANGUAGE.md as can be read off the class and its text. */
public final class LanguageTest {
    private static final Due due = new Due();
    private static final String[] FACE = {
        "int about(int)", "int again(int)", "int article(int,int)", "int balks(int,int)", "int by(int,int)",
        "int differ(int,int)", "int enclaves(int)", "int fault()", "int forget(int)",
        "int forgets(int,int,int,boolean)", "int judge(int,int)", "int keep(int)", "int may(int,int)",
        "int mule(int,int)", "int pause()", "int rests(int)", "int see(int,int,int,int,int)", "int sell(int)",
        "int share(int,boolean)", "int show(int,int,int)", "int step(int,int)", "int teach(int)", "int treaty()",
        "int undo()", "int unsee()", "int way(int,int,boolean)", "int wipe()", "int write(int)", "int years(int)",
        "long seed(long)"};
    private static final String[] RULED_OUT = {
        "\\bthrows?\\b", "\\btry\\b", "\\bcatch\\b", "\\bfinally\\b", "\\bsynchronized\\b", "\\bvolatile\\b",
        "\\bassert\\b", "\\bprotected\\b", "::", "\\w*Exception\\b", "\\w*Error\\b", "\\bRandom\\b", "\\bThread\\b",
        "\\bObject\\b", "\\w+Exact\\b", "\\bstatic\\s*\\{", "\\bSystem\\b(?!\\s*\\.\\s*arraycopy\\b)",
        "\\bimport\\s+(?!java\\.util\\.(?:ArrayList|List|Iterator|Arrays)\\s*;)",
        "\\bboolean\\s+equals\\b", "\\bint\\s+hashCode\\b", "\\bString\\s+toString\\b"};

    public static void main(String[] args) throws IOException {
        face();
        constants();
        members();
        words();
        due.end();
    }

    private static String told(Method m) {
        StringBuilder text = new StringBuilder(m.getReturnType().getName()).append(' ').append(m.getName()).append('(');
        String between = "";
        for (Class<?> type : m.getParameterTypes()) {
            text.append(between).append(type.getName());
            between = ",";
        }
        return text.append(')').toString();
    }

    private static void face() {
        Set<String> there = new TreeSet<>();
        for (Method m : MulesRemember.class.getDeclaredMethods()) {
            if (!Modifier.isPrivate(m.getModifiers())) {
                there.add(told(m));
                due.is("public, and no more: " + m, m.getModifiers(), Modifier.PUBLIC);
            }
        }
        Set<String> asked = new TreeSet<>(Arrays.asList(FACE));
        due.is("the face " + there, there.equals(asked) ? 1 : 0, 1);
        Constructor<?>[] constructors = MulesRemember.class.getDeclaredConstructors();
        due.is("constructors", constructors.length, 1);
        due.is("the constructor is public", constructors[0].getModifiers(), Modifier.PUBLIC);
        due.is("its parameters", constructors[0].getParameterCount(), 0);
        due.is("public and final", MulesRemember.class.getModifiers(), Modifier.PUBLIC | Modifier.FINAL);
    }

    private static void constants() {
        due.is("UNKNOWN", MulesRemember.UNKNOWN, -1);
        due.is("BAD", MulesRemember.BAD, -2);
        due.is("LATE", MulesRemember.LATE, -3);
        due.is("FULL", MulesRemember.FULL, -4);
        due.is("NONE", MulesRemember.NONE, -9);
    }

    private static void members() {
        Set<String> constants = new HashSet<>(Arrays.asList("UNKNOWN", "BAD", "LATE", "FULL", "NONE"));
        Set<String> names = new HashSet<>();
        for (Method m : MulesRemember.class.getMethods()) {
            names.add(m.getName());
        }
        for (Field f : MulesRemember.class.getDeclaredFields()) {
            boolean hidden = Modifier.isPrivate(f.getModifiers()) || constants.contains(f.getName());
            due.is("private, or of the face: " + f, hidden ? 1 : 0, 1);
            due.is("static fields are final: " + f, isSteady(f) ? 1 : 0, 1);
        }
        for (Method m : MulesRemember.class.getDeclaredMethods()) {
            boolean clash = Modifier.isPrivate(m.getModifiers()) && names.contains(m.getName());
            due.is("a name of its own: " + m, clash ? 1 : 0, 0);
            due.is("parameters of " + m, m.getParameterCount() <= 7 ? 1 : 0, 1);
        }
        for (Class<?> inner : MulesRemember.class.getDeclaredClasses()) {
            due.is("static: " + inner, Modifier.isStatic(inner.getModifiers()) ? 1 : 0, 1);
            for (Field f : inner.getDeclaredFields()) {
                due.is("static fields are final: " + f, isSteady(f) ? 1 : 0, 1);
            }
        }
    }

    private static boolean isSteady(Field f) {
        return !Modifier.isStatic(f.getModifiers()) || Modifier.isFinal(f.getModifiers());
    }

    private static void words() throws IOException {
        String text = Files.readString(Path.of("src/main/java/MulesRemember.java"));
        text = text.replaceAll("(?s)/\\*.*?\\*/", " ").replaceAll("//[^\n]*", " ");
        for (String rule : RULED_OUT) {
            Matcher m = Pattern.compile(rule).matcher(text);
            due.is("ruled out: " + rule, m.find() ? 1 : 0, 0);
        }
        due.is("no lambda", lambdas(text), 0);
    }

    /** Arrows that are no case of a switch. */
    private static int lambdas(String text) {
        int count = 0;
        for (String line : text.split("\n")) {
            boolean isCase = line.trim().startsWith("case ") || line.trim().startsWith("default");
            count += line.contains("->") && !isCase ? 1 : 0;
        }
        return count;
    }
}
