import java.io.IOException;
import java.lang.reflect.Constructor;
import java.lang.reflect.Field;
import java.lang.reflect.Method;
import java.lang.reflect.Modifier;
import java.nio.file.Files;
import java.nio.file.Path;
import java.util.List;
import java.util.Set;
import java.util.TreeSet;
import java.util.regex.Matcher;
import java.util.regex.Pattern;

/** What can be seen from outside of the rules of LANGUAGE.md: words, the face, sizes. */
public final class LanguageTest {
    private static final String FACE = """
        act(int,int,int):int all(int,int):long back():int behind(int,int,int):int body(int):int count(int):int
        drawn(int,int,int):int element(int,int):long eve(int,int,int):int feed(int):int first(int,int):int
        fold(int):int friend(int,int):int half():int hire(int,int,int):int hour():int image():int keep(int,int):int
        king(int,int):long later(int,int,int):int law():int led(int):int likeliest():int likely(int,int,int):long
        mend(int,int,int):int odds(int):int of(int,int):int person(int):int put(int,int,long):int redo():int
        rid(int,int,int):long row(int,int,int):int safe():int share(int,int):int shift(int,int,int,int,int):int
        slip(int,int):int taken(int,int):int ticket(int,int):int tickets(int,int,int):int trace(int):int undo():int
        watch(int):int""";
    private static final List<String> FORBIDDEN = List.of("throw", "try", "catch", "synchronized", "assert", "package",
        "import", "protected", "->", "::", "native", "volatile", "transient", "strictfp", "Exact", "System.out");

    public static void main(String[] args) throws IOException {
        String source = Files.readString(Path.of("src/main/java/LotNobodyWants.java"));
        words(source);
        methodLengths(source);
        face();
        insides();
        Check.finish();
    }

    private static void words(String source) {
        String code = source.replaceAll("(?s)/\\*.*?\\*/", "").replaceAll("//[^\n]*", "");
        for (String word : FORBIDDEN) {
            String plain = Pattern.quote(word);
            Pattern pattern = Pattern.compile(Character.isLetter(word.charAt(0)) ? "\\b" + plain + "\\b" : plain);
            Check.due("uses of " + word, pattern.matcher(code).results().count(), 0);
        }
        Check.due("loops without a bound", Pattern.compile("\\bwhile\\b|for \\(;;").matcher(code).results().count(), 0);
        Check.due("signs above 127", source.chars().filter(c -> c > 127).count(), 0);
    }

    /** Methods of the class begin four blanks in, those of classes inside it eight. */
    private static void methodLengths(String source) {
        String[] lines = source.split("\n");
        Pattern head = Pattern.compile("^( {4}| {8})[A-Za-z][^=;]*\\)( throws .*)? \\{$");
        int longest = 0;
        for (int k = 0; k < lines.length; k++) {
            Matcher m = head.matcher(lines[k]);
            if (m.matches() && !lines[k].contains("class ")) {
                int end = k;
                while (end < lines.length && !lines[end].equals(m.group(1) + "}")) {
                    end++;
                }
                longest = Math.max(longest, end - k + 1);
            }
        }
        Check.due("longest method is some sixty lines at most", longest > 0 && longest <= 60 ? 1 : 0, 1);
    }

    private static void face() {
        Set<String> seen = new TreeSet<>();
        Set<String> names = new TreeSet<>();
        for (Method m : LotNobodyWants.class.getDeclaredMethods()) {
            if (!Modifier.isPrivate(m.getModifiers())) {
                Check.due(m + " is public", Modifier.isPublic(m.getModifiers()) && !Modifier.isStatic(m.getModifiers()) ? 1 : 0, 1);
                seen.add(signature(m));
                names.add(m.getName());
            }
        }
        Check.due("the face", seen.equals(new TreeSet<>(List.of(FACE.split("\\s+")))) ? 1 : 0, 1);
        for (Method m : LotNobodyWants.class.getDeclaredMethods()) {
            boolean hidden = Modifier.isPrivate(m.getModifiers());
            Check.due(m.getName() + " bears a public name", hidden && names.contains(m.getName()) ? 1 : 0, 0);
        }
        Set<String> constants = new TreeSet<>();
        for (Field f : LotNobodyWants.class.getDeclaredFields()) {
            if (!Modifier.isPrivate(f.getModifiers())) {
                constants.add(f.getName());
            }
        }
        Check.due("constants", constants.equals(Set.of("BAD", "NOT", "FULL", "STATE", "VOID")) ? 1 : 0, 1);
        Constructor<?>[] constructors = LotNobodyWants.class.getDeclaredConstructors();
        Check.due("constructors", constructors.length, 1);
        Check.due("public and final", LotNobodyWants.class.getModifiers(), Modifier.PUBLIC | Modifier.FINAL);
    }

    private static String signature(Method m) {
        StringBuilder text = new StringBuilder(m.getName()).append('(');
        for (int k = 0; k < m.getParameterCount(); k++) {
            text.append(k == 0 ? "" : ",").append(m.getParameterTypes()[k].getName());
        }
        return text.append("):").append(m.getReturnType().getName()).toString();
    }

    private static void insides() {
        Class<?>[] inside = LotNobodyWants.class.getDeclaredClasses();
        Check.due("some twelve classes", inside.length <= 12 ? 1 : 0, 1);
        for (Class<?> c : inside) {
            Check.due(c + " is static", Modifier.isStatic(c.getModifiers()) ? 1 : 0, 1);
            Check.due(c + " holds no class", c.getDeclaredClasses().length, 0);
            look(c);
        }
        look(LotNobodyWants.class);
    }

    private static void look(Class<?> c) {
        int fields = 0;
        for (Field f : c.getDeclaredFields()) {
            boolean fixed = Modifier.isStatic(f.getModifiers());
            fields += fixed ? 0 : 1;
            Check.due(f + " is final, if static", !fixed || Modifier.isFinal(f.getModifiers()) ? 1 : 0, 1);
        }
        Check.due(c + " has some twenty fields", fields <= 20 ? 1 : 0, 1);
        for (Method m : c.getDeclaredMethods()) {
            Check.due(m + " takes seven at most", m.getParameterCount() <= 7 ? 1 : 0, 1);
            Check.due(m + " is none of equals, hashCode, toString",
                Set.of("equals", "hashCode", "toString").contains(m.getName()) ? 1 : 0, 0);
        }
    }
}
