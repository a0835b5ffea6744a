import java.io.IOException;
import java.lang.reflect.Constructor;
import java.lang.reflect.Field;
import java.lang.reflect.Method;
import java.lang.reflect.Modifier;
import java.nio.file.Files;
import java.nio.file.Path;
import java.util.Set;
import java.util.TreeSet;
import java.util.regex.Matcher;
import java.util.regex.Pattern;

/** The document's face and nothing beside it, and the rules of LANGUAGE.md that a test can see. */
public final class FaceTest {
    private static final Due due = new Due();
    private static final Set<String> FACE = new TreeSet<>(Set.of("int write(int,long)", "int wipe()", "int fault()", "int lay()",
            "int guest(int,int)", "int worth(int,int,int)", "int hands(int,int)", "int ask(int,int)", "int undo()",
            "int evening()", "int need(int,int)", "int first(int,int)", "int price(int,int)", "int never(int)", "int stuck()",
            "int rest()", "int holdsUp(int)", "int liked(int)", "int most()", "int seats()", "long went(int)",
            "int drawn(int,int,int)", "int keep()", "int back()", "int count(int)"));

    public static void main(String[] args) throws IOException {
        face();
        inside();
        text(Files.readString(Path.of("src/main/java/PassTheSalt.java")));
        due.end();
    }

    private static void face() {
        int modifiers = PassTheSalt.class.getModifiers();
        due.is("public and final", Modifier.isPublic(modifiers) && Modifier.isFinal(modifiers) ? 1 : 0, 1);
        Constructor<?>[] constructors = PassTheSalt.class.getDeclaredConstructors();
        due.is("constructors", constructors.length, 1);
        due.is("its parameters", constructors[0].getParameterCount(), 0);
        due.is("it is public", Modifier.isPublic(constructors[0].getModifiers()) ? 1 : 0, 1);
        Set<String> seen = new TreeSet<>();
        Set<String> names = new TreeSet<>();
        for (Method m : PassTheSalt.class.getDeclaredMethods()) {
            if (!Modifier.isPrivate(m.getModifiers())) {
                StringBuilder parameters = new StringBuilder();
                for (Class<?> p : m.getParameterTypes()) {
                    parameters.append(parameters.length() == 0 ? "" : ",").append(p.getName());
                }
                seen.add(m.getReturnType().getName() + " " + m.getName() + "(" + parameters + ")");
                names.add(m.getName());
                due.is(m.getName() + " is public, not static", Modifier.isPublic(m.getModifiers())
                        && !Modifier.isStatic(m.getModifiers()) ? 1 : 0, 1);
            }
        }
        due.is("the face is " + seen, seen.equals(FACE) ? 1 : 0, 1);
        for (Method m : PassTheSalt.class.getDeclaredMethods()) {
            due.is("private " + m.getName(), Modifier.isPrivate(m.getModifiers()) && names.contains(m.getName()) ? 1 : 0, 0);
        }
        for (Class<?> c : PassTheSalt.class.getDeclaredClasses()) {
            for (Method m : c.getDeclaredMethods()) {
                due.is(c.getName() + "." + m.getName(), names.contains(m.getName()) ? 1 : 0, 0);
            }
        }
        due.is("BAD", PassTheSalt.BAD, -1);
        due.is("NO", PassTheSalt.NO, -2);
        due.is("FULL", PassTheSalt.FULL, -3);
        due.is("NONE", PassTheSalt.NONE, -4);
    }

    private static void inside() {
        fields(PassTheSalt.class);
        due.is("twelve classes at most", PassTheSalt.class.getDeclaredClasses().length < 12 ? 1 : 0, 1);
        for (Class<?> c : PassTheSalt.class.getDeclaredClasses()) {
            due.is(c.getName() + " is static, private", Modifier.isStatic(c.getModifiers()) && Modifier.isPrivate(c.getModifiers()) ? 1 : 0, 1);
            fields(c);
            for (Method m : c.getDeclaredMethods()) {
                due.is(m.getName() + " parameters", m.getParameterCount() <= 7 ? 1 : 0, 1);
            }
        }
    }

    private static void fields(Class<?> c) {
        int many = 0;
        for (Field f : c.getDeclaredFields()) {
            boolean constant = Modifier.isStatic(f.getModifiers());
            many += constant ? 0 : 1;
            due.is(f + " is final, if static", constant && !Modifier.isFinal(f.getModifiers()) ? 1 : 0, 0);
            if (c == PassTheSalt.class) {
                boolean told = Set.of("BAD", "NO", "FULL", "NONE").contains(f.getName());
                due.is(f + " is private, or told", Modifier.isPublic(f.getModifiers()) == told
                        && (told || Modifier.isPrivate(f.getModifiers())) ? 1 : 0, 1);
            }
        }
        due.is(c.getName() + " has some twenty fields at most", many <= 20 ? 1 : 0, 1);
    }

    private static void text(String source) {
        String bare = source.replaceAll("(?s)/\\*.*?\\*/", "").replaceAll("//[^\n]*", "");
        String[] never = {"\\bpackage\\b", "->", "::", "\\btry\\b", "\\bcatch\\b", "\\bfinally\\b", "\\bsynchronized\\b", "\\bassert\\b",
            "\\bthrow\\b", "\\bSystem\\.(?!arraycopy)", "\\bThread\\b", "\\bRandom\\b", "\\bMath\\.(?!max|min|abs)", "Exact\\b",
            "\\bstatic\\s*\\{", "\\bwhile\\s*\\(true\\)", "for\\s*\\(;;", "\\bimport\\s+(?!java\\.util\\.Arrays;)",
            "\\bArrays\\.(?!fill|copyOf)", "\\b(Integer|Long)\\.(?!bitCount)", "[^\\x00-\\x7f]"};
        for (String sign : never) {
            Matcher m = Pattern.compile(sign).matcher(bare);
            due.is("the text has " + sign, m.find() ? 1 : 0, 0);
        }
        // What a call makes stays in the room for ever: so rows are made with the object alone.
        Matcher made = Pattern.compile("(?m)^(.*)\\bnew ").matcher(bare);
        while (made.find()) {
            String line = made.group(1);
            due.is("made with the object alone: " + line,
                    line.contains("private final") || line.contains("private long[]") || line.trim().startsWith("other")
                            || line.trim().startsWith("rows =") ? 1 : 0, 1);
        }
    }
}
