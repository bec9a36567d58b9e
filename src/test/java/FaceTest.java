import java.lang.reflect.Field;
import java.lang.reflect.Member;
import java.lang.reflect.Method;
import java.lang.reflect.Modifier;
import java.nio.file.Files;
import java.nio.file.Path;
import java.util.TreeSet;
import java.util.regex.Matcher;
import java.util.regex.Pattern;

/** The public face: the constants, one constructor, the methods, and nothing else to be seen. */
public final class FaceTest {
    private static final String METHODS = "act again age alterRow back bare branch cut cutFor"
        + " cutsFor does feed fits forceFor freeFor graft harvest hope item judge keep kindFor lawOf"
        + " many mind minds odds of prove put regret ripe row seed set sheet shelf state stem taken"
        + " trace tree winters year years";

    public static void main(String[] args) throws Exception {
        Check.due("BAD", LastPruned.BAD, -1);
        Check.due("FULL", LastPruned.FULL, -2);
        Check.due("NONE", LastPruned.NONE, -3);
        Check.due("constructors", LastPruned.class.getDeclaredConstructors().length, 1);
        Check.due("final", Modifier.isFinal(LastPruned.class.getModifiers()) ? 1 : 0, 1);
        TreeSet<String> names = new TreeSet<>();
        for (Method m : LastPruned.class.getDeclaredMethods()) {
            if (isSeen(m)) {
                names.add(m.getName());
            } else {
                boolean isTaken = (" " + METHODS + " ").contains(" " + m.getName() + " ");
                Check.due("private method with a public name: " + m.getName(), isTaken ? 1 : 0, 0);
            }
        }
        Check.due("methods: " + names, String.join(" ", names).equals(METHODS) ? 1 : 0, 1);
        for (Field f : LastPruned.class.getDeclaredFields()) {
            boolean isConstant = "BAD FULL NONE".contains(f.getName());
            Check.due("field to be seen: " + f.getName(), isSeen(f) ? 1 : 0, isConstant ? 1 : 0);
        }
        signatures();
        classesInside();
        Check.end();
    }

    /** Each line of "The public face" has its method, with the same types. */
    private static void signatures() throws Exception {
        TreeSet<String> due = new TreeSet<>();
        Matcher line = Pattern.compile("public (int|long) (\\w+)\\(([^)]*)\\);").matcher(Files.readString(Path.of("../shared/DOC.md")));
        while (line.find()) {
            due.add(line.group(1) + " " + line.group(2) + "(" + line.group(3).replaceAll(" \\w+(,|$)", "$1").replace(" ", "") + ")");
        }
        TreeSet<String> got = new TreeSet<>();
        for (Method m : LastPruned.class.getDeclaredMethods()) {
            if (isSeen(m)) {
                String types = m.toString().replaceAll(".*\\(|\\).*", "");
                got.add(m.getReturnType() + " " + m.getName() + "(" + types + ")");
                Check.due("public: " + m, m.getModifiers(), Modifier.PUBLIC);
            }
        }
        Check.due("signatures: " + got + " / " + due, got.equals(due) && due.size() == 45 ? 1 : 0, 1);
    }

    /** Rule 1 of LANGUAGE.md speaks of all private methods; here none inside bears such a name, private or not. */
    private static void classesInside() {
        for (Class<?> inside : LastPruned.class.getDeclaredClasses()) {
            int modifiers = inside.getModifiers();
            boolean isHidden = !Modifier.isPublic(modifiers) && !Modifier.isProtected(modifiers);
            Check.due("not to be seen, and static: " + inside, isHidden && Modifier.isStatic(modifiers) ? 1 : 0, 1);
            for (Method m : inside.getDeclaredMethods()) {
                boolean isTaken = (" " + METHODS + " ").contains(" " + m.getName() + " ");
                Check.due("a public method's name inside: " + m, isTaken ? 1 : 0, 0);
            }
        }
    }

    private static boolean isSeen(Member m) {
        return !Modifier.isPrivate(m.getModifiers()) && !m.isSynthetic();
    }
}
