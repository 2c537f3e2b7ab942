import java.io.IOException;
import java.lang.reflect.Constructor;
import java.lang.reflect.Field;
import java.lang.reflect.Method;
import java.lang.reflect.Modifier;
import java.nio.file.Files;
import java.nio.file.Path;
import java.util.Set;
import java.util.TreeSet;
import java.util.regex.Pattern;

/** The class shows the document's face and nothing else, and keeps to the language's rules. */
public final class FaceTest {
    private static final Set<String> METHODS = Set.of(
        "int put(int,int,int,int)", "int extend(int,int)", "int hold(int,int,boolean)", "int delete(int)",
        "int shred(int)", "int tick(int)", "long get(int,int)", "int look(int,int)", "int records()",
        "long root(int)", "long path(int,int,int)", "long bridge(int,int,int)", "boolean feed(int)",
        "boolean included(int,int,int)", "boolean extended(int,int,int,int)", "long word(int)",
        "boolean alter(int,int)", "int power(boolean)", "boolean cut(int)", "int audit(int,int)");
    private static final Set<String> CONSTANTS = Set.of(
        "int BAD", "int ABSENT", "int GONE", "int SHORT", "int SAME", "int HELD", "int EARLY", "int FULL",
        "int LOST", "int OFF", "long NONE");
    private static final String[] RULED_OUT = {
        "throw", "throws", "try", "catch", "synchronized", "assert", "protected", "import", "package", "equals",
        "hashCode", "toString", "->", "::", "while \\(true\\)", "@"};

    public static void main(String[] args) throws IOException {
        Due due = new Due("FaceTest");
        due.yes("the class is public and final", Modifier.isPublic(WriteOnceVault.class.getModifiers())
            && Modifier.isFinal(WriteOnceVault.class.getModifiers()));
        due.yes("methods " + shownMethods(), shownMethods().equals(METHODS));
        due.yes("constants " + shownFields(), shownFields().equals(CONSTANTS));
        constructors(due);
        insideClasses(due);
        values(due);
        ruledOut(due);
        due.end();
    }

    private static Set<String> shownMethods() {
        Set<String> shown = new TreeSet<>();
        for (Method m : WriteOnceVault.class.getDeclaredMethods()) {
            if (Modifier.isPrivate(m.getModifiers())) continue;
            StringBuilder text = new StringBuilder();
            for (Class<?> type : m.getParameterTypes()) {
                text.append(text.length() == 0 ? "" : ",").append(type.getName());
            }
            String kind = Modifier.isPublic(m.getModifiers()) && !Modifier.isStatic(m.getModifiers()) ? "" : "odd ";
            shown.add(kind + m.getReturnType().getName() + " " + m.getName() + "(" + text + ")");
        }
        return shown;
    }

    private static Set<String> shownFields() {
        Set<String> shown = new TreeSet<>();
        for (Field f : WriteOnceVault.class.getDeclaredFields()) {
            if (Modifier.isPrivate(f.getModifiers())) continue;
            boolean constant = f.getModifiers() == (Modifier.PUBLIC | Modifier.STATIC | Modifier.FINAL);
            shown.add((constant ? "" : "odd ") + f.getType().getName() + " " + f.getName());
        }
        return shown;
    }

    private static void constructors(Due due) {
        Constructor<?>[] all = WriteOnceVault.class.getDeclaredConstructors();
        due.is("constructors", 1, all.length);
        due.is("parameters of the constructor", 0, all[0].getParameterCount());
        due.yes("the constructor is public", Modifier.isPublic(all[0].getModifiers()));
    }

    private static void insideClasses(Due due) {
        Set<String> faceNames = new TreeSet<>();
        for (String m : METHODS) {
            faceNames.add(m.substring(m.indexOf(' ') + 1, m.indexOf('(')));
        }
        for (Class<?> c : WriteOnceVault.class.getDeclaredClasses()) {
            due.yes(c.getName() + " is static", Modifier.isStatic(c.getModifiers()));
            due.no(c.getName() + " is public", Modifier.isPublic(c.getModifiers()));
            for (Method m : c.getDeclaredMethods()) {
                due.no(c.getName() + "." + m.getName() + " bears a public name", faceNames.contains(m.getName()));
            }
        }
        for (Method m : WriteOnceVault.class.getDeclaredMethods()) {
            if (Modifier.isPrivate(m.getModifiers())) {
                due.no(m.getName() + " bears a public name", faceNames.contains(m.getName()));
            }
        }
    }

    private static void values(Due due) {
        due.is("BAD", -1, WriteOnceVault.BAD);
        due.is("ABSENT", -2, WriteOnceVault.ABSENT);
        due.is("GONE", -3, WriteOnceVault.GONE);
        due.is("SHORT", -4, WriteOnceVault.SHORT);
        due.is("SAME", -5, WriteOnceVault.SAME);
        due.is("HELD", -6, WriteOnceVault.HELD);
        due.is("EARLY", -7, WriteOnceVault.EARLY);
        due.is("FULL", -8, WriteOnceVault.FULL);
        due.is("LOST", -9, WriteOnceVault.LOST);
        due.is("OFF", -10, WriteOnceVault.OFF);
        due.is("NONE", 1099511627776L, WriteOnceVault.NONE);
    }

    private static void ruledOut(Due due) throws IOException {
        String source = Files.readString(Path.of("src/main/java/WriteOnceVault.java"));
        String code = source.replaceAll("(?s)/\\*.*?\\*/", "").replaceAll("//[^\n]*", "");
        for (String word : RULED_OUT) {
            String pattern = Character.isLetter(word.charAt(0)) ? "\\b" + word + "(?!\\w)" : word;
            due.no("the source has " + word, Pattern.compile(pattern).matcher(code).find());
        }
    }
}
