import java.lang.reflect.Constructor;
import java.lang.reflect.Field;
import java.lang.reflect.Method;
import java.lang.reflect.Modifier;
import java.nio.file.Files;
import java.nio.file.Path;
import java.util.ArrayList;
import java.util.Arrays;
import java.util.List;
import java.util.Set;
import java.util.TreeSet;
import java.util.regex.Matcher;
import java.util.regex.Pattern;

/** The document's face by reflection, with rules 1, 2, 5 and 11 of ../shared/LANGUAGE.md; RulesTest has the others. */
public final class LanguageTest {
    private static final String FACE = "boolean due(int,int)|boolean end(int)|boolean hold(int,int)|boolean on()|"
            + "boolean seed(int)|boolean swap(int,int)|boolean undo()|int chance(int)|int days(int)|int done(int)|"
            + "int fault(int)|int feed(int,int,int,int,int)|int guard(int,int)|int hangs(int,int)|int has(int)|"
            + "int image()|int job(int,int)|int kept(int,int)|int kind(int,int)|int knows(int,int)|int late(int)|"
            + "int later(int,int)|int letter(int,int,int)|int loan(int,int)|int makeshift(int,int,int)|"
            + "int moved(int,int)|int octet(int)|int order(int,int)|int shavings()|int status(int)|int tool(int,int)|"
            + "int when(int)|int year()";
    private static int wrong;

    private LanguageTest() {
    }

    public static void main(String[] args) throws Exception {
        face();
        nested();
        source(Files.readString(Path.of("src/main/java/ToolSaints.java")));
        System.out.println(wrong == 0 ? "face and language are kept" : wrong + " rules are broken");
        if (wrong != 0) {
            System.exit(1);
        }
    }

    private static void check(boolean fine, String what) {
        if (!fine) {
            wrong++;
            System.out.println("broken: " + what);
        }
    }

    private static String shape(Method m) {
        StringBuilder b = new StringBuilder(m.getReturnType() + " " + m.getName() + "(");
        for (Class<?> c : m.getParameterTypes()) {
            b.append(b.charAt(b.length() - 1) == '(' ? "" : ",").append(c);
        }
        return b.append(")").toString();
    }

    private static void face() throws Exception {
        Class<?> c = ToolSaints.class;
        check(Modifier.isPublic(c.getModifiers()) && Modifier.isFinal(c.getModifiers()), "public final class");
        Set<String> methods = new TreeSet<>();
        Set<String> publicNames = new TreeSet<>();
        for (Method m : c.getDeclaredMethods()) {
            boolean open = Modifier.isPublic(m.getModifiers());
            check(open || Modifier.isPrivate(m.getModifiers()), "rule 1: " + m);
            if (open) {
                methods.add(shape(m));
                publicNames.add(m.getName());
            }
        }
        check(methods.equals(new TreeSet<>(Arrays.asList(FACE.split("\\|")))), "the face: " + methods);
        for (Method m : c.getDeclaredMethods()) {
            check(Modifier.isPublic(m.getModifiers()) || !publicNames.contains(m.getName()), "rule 1: " + m);
        }
        for (Field f : c.getDeclaredFields()) {
            boolean none = f.getName().equals("NONE") && Modifier.isPublic(f.getModifiers()) && f.getInt(null) == -1;
            check(none || Modifier.isPrivate(f.getModifiers()), "rule 1: " + f);
        }
        Constructor<?>[] makers = c.getDeclaredConstructors();
        check(makers.length == 1 && Modifier.isPublic(makers[0].getModifiers()) && makers[0].getParameterCount() == 0,
                "one public constructor");
    }

    private static void nested() {
        List<Class<?>> classes = new ArrayList<>(List.of(ToolSaints.class.getDeclaredClasses()));
        check(classes.size() + 1 <= 12, "rule 11: some twelve classes");
        classes.add(ToolSaints.class);
        for (Class<?> c : classes) {
            check(c == ToolSaints.class || Modifier.isStatic(c.getModifiers()), "rule 2: " + c);
            int own = 0;
            for (Field f : c.getDeclaredFields()) {
                boolean fixed = Modifier.isStatic(f.getModifiers());
                own += fixed ? 0 : 1;
                check(!fixed || Modifier.isFinal(f.getModifiers()), "rule 5: " + f);
            }
            check(own <= 20, "rule 11: " + own + " fields in " + c);
            for (Method m : c.getDeclaredMethods()) {
                check(c == ToolSaints.class || !FACE.contains(" " + m.getName() + "("), "rule 1, the name of " + m);
            }
        }
    }

    private static void source(String text) {
        Matcher imports = Pattern.compile("(?m)^import ([^;]*);").matcher(text);
        while (imports.find()) {
            check(imports.group(1).equals("java.util.Arrays"), "rule 4: " + imports.group(1));
        }
        check(!Pattern.compile("(?m)^package ").matcher(text).find(), "a package");
        for (char c : text.toCharArray()) {
            check(c == '\n' || c >= 32 && c < 127, "a sign beyond 127");
        }
    }
}
