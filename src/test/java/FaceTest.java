import java.io.IOException;
import java.lang.reflect.Constructor;
import java.lang.reflect.Field;
import java.lang.reflect.Member;
import java.lang.reflect.Method;
import java.lang.reflect.Modifier;
import java.nio.file.Files;
import java.nio.file.Path;
import java.util.Arrays;
import java.util.Set;
import java.util.TreeSet;
import java.util.regex.Matcher;
import java.util.regex.Pattern;

/** The public face, and those rules of LANGUAGE.md that can be seen from outside. Its argument: the source file. */
public final class FaceTest {
    private static final String[] FACE = {
        "int feed(int,int,int,int,int)", "int end(int)", "int plain()", "int fault(int)", "int village(int,int)",
        "int takes(int,int)", "int water(int,int)", "int flood(int,int)", "int loan(int,int)", "int crop(int,int)",
        "int sum(int)", "int first()", "int best()", "int taker(int)", "int safe()", "long hope(int)", "int wise(int)",
        "long wisest(int)", "int agree(int)", "int who(int,int)", "int sure(int,int,int)", "int needed(int)",
        "int fair(int)", "int more(int)", "int owes(int,int)", "int rings(int)", "int ring(int)", "int left(int,int)",
        "int struck(int,int)", "int pays(int,int,int)", "int law()", "int melons(int)", "int share(int)",
        "int enough(int)", "int year(int,int)", "int years(int,int)", "int count(int)", "int image(int)",
        "int restore(int)", "int row(int,int,int)", "int write(int,int,long)", "int paste(int,int,int,int,int)"};

    public static void main(String[] args) throws IOException {
        face();
        for (Class<?> inside : FloodLent.class.getDeclaredClasses()) {
            inside(inside);
        }
        Check.that("some twelve classes", FloodLent.class.getDeclaredClasses().length <= 11);
        source(Files.readString(Path.of(args[0])));
        Check.close("FaceTest");
    }

    private static String told(Method m) {
        StringBuilder s = new StringBuilder(m.getReturnType() + " " + m.getName() + "(");
        for (Class<?> type : m.getParameterTypes()) {
            s.append(s.charAt(s.length() - 1) == '(' ? "" : ",").append(type);
        }
        return s.append(")").toString();
    }

    private static boolean isHidden(Member m) {
        return Modifier.isPrivate(m.getModifiers()) || m.isSynthetic();
    }

    private static void face() {
        Check.that("public and final", Modifier.isPublic(FloodLent.class.getModifiers()) && Modifier.isFinal(FloodLent.class.getModifiers()));
        Set<String> open = new TreeSet<>();
        for (Method m : FloodLent.class.getDeclaredMethods()) {
            if (Modifier.isPublic(m.getModifiers())) {
                open.add(told(m));
            } else {
                Check.that("private " + m, isHidden(m));
                Check.that("no name of the face: " + m, !names().contains(m.getName()));
            }
            Check.that("seven parameters at most: " + m, m.getParameterCount() <= 7);
        }
        Check.that("the document's methods and no others: " + open, open.equals(new TreeSet<>(Arrays.asList(FACE))));
        Constructor<?>[] constructors = FloodLent.class.getDeclaredConstructors();
        Check.due("constructors", constructors.length, 1);
        Check.that("public FloodLent()", Modifier.isPublic(constructors[0].getModifiers()) && constructors[0].getParameterCount() == 0);
        for (Field f : FloodLent.class.getDeclaredFields()) {
            Check.that("private " + f, isHidden(f) != f.getName().equals("NONE"));
            Check.that("a static field is final: " + f, !Modifier.isStatic(f.getModifiers()) || Modifier.isFinal(f.getModifiers()));
        }
    }

    private static Set<String> names() {
        Set<String> names = new TreeSet<>();
        for (String method : FACE) {
            names.add(method.substring(method.indexOf(' ') + 1, method.indexOf('(')));
        }
        return names;
    }

    private static void inside(Class<?> inside) {
        Check.that("static and not public " + inside, Modifier.isStatic(inside.getModifiers()) && !Modifier.isPublic(inside.getModifiers()));
        for (Method m : inside.getDeclaredMethods()) {
            Check.that("no name of the face: " + m, !names().contains(m.getName()));
            Check.that("seven parameters at most: " + m, m.getParameterCount() <= 7);
        }
        int fields = 0;
        for (Field f : inside.getDeclaredFields()) {
            boolean constant = Modifier.isStatic(f.getModifiers());
            Check.that("a static field is a constant: " + f, !constant || Modifier.isFinal(f.getModifiers()) && f.getType().isPrimitive());
            fields += constant ? 0 : 1;
        }
        Check.that("some twenty fields: " + inside, fields <= 20);
    }

    private static void source(String source) {
        String code = source.replaceAll("(?s)/\\*.*?\\*/", "").replaceAll("//[^\\n]*", "").replaceAll("\"[^\"\\n]*\"", "\"\"");
        String[] barred = {"throw", "try", "catch", "synchronized", "assert", "instanceof", "record", "package", "volatile",
            "transient", "native", "Object", "System\\.(?!arraycopy)", "->", "::", "Exact", "toString", "hashCode", "equals",
            "HashMap", "Random", "Thread", "Runtime", "Double", "Long\\.", "protected", "yield", "var"};
        for (String word : barred) {
            Matcher m = Pattern.compile((Character.isLetter(word.charAt(0)) ? "\\b" : "") + word).matcher(code);
            Check.that("no " + word, !(word.equals("record") || word.equals("var")
                ? Pattern.compile("\\b" + word + "\\b").matcher(code).find() : m.find()));
        }
        Matcher imports = Pattern.compile("import ([^;]+);").matcher(code);
        while (imports.find()) {
            Check.that("import " + imports.group(1), imports.group(1).equals("java.util.Arrays"));
        }
        Check.that("no method of more than sixty lines", longest(source) <= 60);
        Check.that("signs 1 to 127 alone", source.chars().allMatch(c -> c > 0 && c < 128));
        Check.that("no text joined by +", !Pattern.compile("\"\"\\s*\\+|\\+\\s*\"\"").matcher(code).find());
    }

    /** How many lines the longest method has: from a line that opens one to the brace that stands below its first sign. */
    private static int longest(String source) {
        Matcher m = Pattern.compile("(?m)^( {4}| {8})(?! )[^\\n;=]*\\) \\{\\n(?s:.*?)^\\1\\}").matcher(source);
        int longest = 0;
        while (m.find()) {
            longest = Math.max(longest, (int) m.group().lines().count());
        }
        Check.that("methods are found", longest > 5);
        return longest;
    }
}
