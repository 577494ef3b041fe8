import java.io.IOException;
import java.lang.reflect.Constructor;
import java.lang.reflect.Field;
import java.lang.reflect.Method;
import java.lang.reflect.Modifier;
import java.nio.file.Files;
import java.nio.file.Path;
import java.util.Arrays;
import java.util.Set;
import java.util.TreeSet;
import java.util.regex.Matcher;
import java.util.regex.Pattern;

/** The document's face, and those rules of LANGUAGE.md that can be seen from outside. */
public final class FaceTest {
    private static final Check CHECK = new Check("FaceTest");
    private static final String[] FACE = {
        "int instruction(int, int, int, int)", "int batch(int, int, int, int, int)", "long truth(int, int)",
        "int state(int, int, int)", "long node(int, int, int)", "int claim(int, int, long)", "int dispute(int, int)",
        "int tell(int, long)", "int choose(int, int)", "int paper(int, long)",
        "int cell(int, int, long, long, long, long)", "int prove(int)", "int judge(int, long, long)",
        "int write(int, int)", "int tick(int)", "int ofClaim(int, int)", "int ofDispute(int, int)",
        "long digest(int, int)", "int purse(int)", "int sum()", "int clear()"};
    private static final String[] FORBIDDEN = {
        "\\bthrow\\b", "\\bthrows\\b", "\\btry\\b", "\\bcatch\\b", "\\bsynchronized\\b", "\\bassert\\b", "->", "::",
        "\\bimport\\b", "\\bpackage\\b", "\\bObject\\b", "\\bSystem\\b", "\\bstatic\\s*\\{", "Exact\\b",
        "\\bprotected\\b", "\\bhashCode\\b", "\\bequals\\b",
        // what an array or a search gives is used only when it is held in a name that can be tested
        "\\]\\.", "(At|find|append)\\([^()]*\\)\\."};
    private static final Pattern MAY_BE_NULL =
            Pattern.compile("\\b[A-Z]\\w* (\\w+) = [^;]*(\\w\\[|At\\(|find\\(|append\\()[^;]*;");

    public static void main(String[] args) throws IOException {
        publicMembers();
        classesInside();
        String code = code();
        forbiddenWords(code);
        referencesAreTested(code);
        CHECK.end();
    }

    private static void publicMembers() {
        Class<?> face = DisputeHalving.class;
        CHECK.due("public and final", face.getModifiers() & (Modifier.PUBLIC | Modifier.FINAL),
                Modifier.PUBLIC | Modifier.FINAL);
        Set<String> found = new TreeSet<>();
        Set<String> publicNames = new TreeSet<>();
        for (Method method : face.getDeclaredMethods()) {
            if (Modifier.isPublic(method.getModifiers())) {
                String parameters = Arrays.toString(method.getParameterTypes());
                found.add(method.getReturnType() + " " + method.getName() + "("
                        + parameters.substring(1, parameters.length() - 1) + ")");
                publicNames.add(method.getName());
            }
        }
        CHECK.holds("the face is " + found, found.equals(new TreeSet<>(Arrays.asList(FACE))));
        for (Method method : face.getDeclaredMethods()) {
            if (!Modifier.isPublic(method.getModifiers())) {
                CHECK.holds(method + " is private", Modifier.isPrivate(method.getModifiers()));
                CHECK.holds(method + " has a name of its own", !publicNames.contains(method.getName()));
            }
        }
        for (Constructor<?> constructor : face.getDeclaredConstructors()) {
            CHECK.holds("the constructor is public", Modifier.isPublic(constructor.getModifiers()));
            CHECK.due("parameters of the constructor", constructor.getParameterCount(), 0);
        }
        for (Field field : face.getDeclaredFields()) {
            boolean isNone = field.getName().equals("NONE");
            CHECK.holds(field + " is private, or NONE", isNone != Modifier.isPrivate(field.getModifiers()));
            CHECK.holds(field + " is final if static",
                    !Modifier.isStatic(field.getModifiers()) || Modifier.isFinal(field.getModifiers()));
        }
        CHECK.due("NONE", DisputeHalving.NONE, -1);
    }

    private static void classesInside() {
        Class<?>[] inside = DisputeHalving.class.getDeclaredClasses();
        CHECK.holds("at most twelve classes", inside.length < 12);
        for (Class<?> one : inside) {
            CHECK.holds(one + " is static", Modifier.isStatic(one.getModifiers()));
            CHECK.holds(one + " is not public", !Modifier.isPublic(one.getModifiers()));
            for (Method method : one.getDeclaredMethods()) {
                CHECK.holds(method + " has at most seven parameters", method.getParameterCount() <= 7);
            }
        }
    }

    private static String code() throws IOException {
        String source = Files.readString(Path.of("src/main/java/DisputeHalving.java"));
        return source.replaceAll("(?s)/\\*.*?\\*/", "").replaceAll("//[^\n]*", "");
    }

    private static void forbiddenWords(String code) {
        for (String forbidden : FORBIDDEN) {
            Matcher matcher = Pattern.compile(forbidden).matcher(code);
            CHECK.holds("no " + forbidden, !matcher.find());
        }
    }

    /** Rule 7: a reference that an array or a search gave is looked at against null before it is used. */
    private static void referencesAreTested(String code) {
        Matcher given = MAY_BE_NULL.matcher(code);
        int found = 0;
        while (given.find()) {
            found++;
            String name = given.group(1);
            Matcher next = Pattern.compile("\\b" + name + "( [!=]= null|\\.)").matcher(code);
            boolean isTested = next.find(given.end()) && next.group(1).endsWith("null");
            CHECK.holds("tested before it is used: " + given.group(), isTested);
        }
        CHECK.holds("references that may be null are found", found > 0);
    }
}
