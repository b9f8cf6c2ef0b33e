import java.io.IOException;
import java.lang.reflect.Field;
import java.lang.reflect.Method;
import java.lang.reflect.Modifier;
import java.nio.file.Files;
import java.nio.file.Path;
import java.util.Arrays;
import java.util.HashSet;
import java.util.Set;
import java.util.TreeSet;
import java.util.regex.Matcher;
import java.util.regex.Pattern;

/** The public face is the document's, and the file keeps to what of ../shared/LANGUAGE.md can be read off it. */
public final class FaceTest {
    private static final String[] METHODS = {"int feed(long)", "int end(int)", "int text()", "int fault()", "int rule(int)",
        "int square(int)", "int piece(int,int)", "int odd(int)", "int oil(int,int)", "int put(int,int)",
        "int steeple(int,boolean)", "int weigh(int,int)", "int turn(int)", "int moves(int)", "int move(int,int)",
        "int go(int,int)", "long chance(int,int,int)", "long byWind(int,int,int)", "int best(int,int)", "int hope(int)",
        "int since(int,int,int)", "int see(int,int)", "int forget(int)", "int fits(int)", "int where(int,int)",
        "int tell(int)", "int drop(int)", "int blow(int)", "int gale(int,int,int)", "int keep(int)", "int back(int)",
        "int sheet(int,int,int)", "int lay(int,int,int)", "int read(int,int,int,int)", "int torn()", "int count(int)"};
    private static final String[] BARRED = {"throw", "try", "catch", "finally", "synchronized", "assert", "import", "package",
        "volatile", "native", "->", "::", "System.out", "Exact", "Random", "Thread", "equals", "hashCode", "toString",
        "@", "yield", "var", "values()"};

    private static final Check CHECK = new Check("FaceTest");

    public static void main(String[] args) throws IOException {
        face();
        inside();
        source(Files.readString(Path.of("src/main/java/WeatherChess.java")));
        CHECK.close();
    }

    private static void face() {
        Class<?> c = WeatherChess.class;
        CHECK.holds("public final", Modifier.isPublic(c.getModifiers()) && Modifier.isFinal(c.getModifiers()));
        CHECK.due("constructors", c.getDeclaredConstructors().length, 1);
        CHECK.due("public constructors without parameters", c.getConstructors()[0].getParameterCount(), 0);
        Set<String> open = new TreeSet<>();
        Set<String> hidden = new HashSet<>();
        for (Method m : c.getDeclaredMethods()) {
            if (Modifier.isPrivate(m.getModifiers())) hidden.add(m.getName());
            else open.add(told(m));
        }
        CHECK.holds("methods " + open, open.equals(new TreeSet<>(Arrays.asList(METHODS))));
        for (String m : METHODS) {
            String name = m.substring(m.indexOf(' ') + 1, m.indexOf('('));
            CHECK.holds("no private method is named " + name, !hidden.contains(name));
            for (Class<?> d : c.getDeclaredClasses()) {
                for (Method n : d.getDeclaredMethods()) CHECK.holds(d + " has no " + name, !n.getName().equals(name));
            }
        }
        Set<String> fields = new TreeSet<>();
        for (Field f : c.getDeclaredFields()) if (!Modifier.isPrivate(f.getModifiers())) fields.add(f.getName());
        CHECK.holds("constants " + fields, fields.equals(new TreeSet<>(Arrays.asList("BAD", "STATE", "FULL", "NONE"))));
    }

    private static String told(Method m) {
        StringBuilder s = new StringBuilder(m.getReturnType() + " " + m.getName() + "(");
        for (Class<?> p : m.getParameterTypes()) s.append(s.charAt(s.length() - 1) == '(' ? "" : ",").append(p);
        return s.append(")").toString();
    }

    private static void inside() {
        Class<?>[] all = WeatherChess.class.getDeclaredClasses();
        CHECK.holds("some twelve classes", all.length <= 12);
        fields(WeatherChess.class);
        for (Class<?> c : all) {
            int m = c.getModifiers();
            CHECK.holds(c + " is static, not public", Modifier.isStatic(m) && !Modifier.isPublic(m) && !Modifier.isProtected(m));
            CHECK.due(c + " has classes of its own", c.getDeclaredClasses().length, 0);
            fields(c);
            for (Method method : c.getDeclaredMethods()) {
                CHECK.holds(c + " " + method + " is not public", !Modifier.isPublic(method.getModifiers()));
                CHECK.holds(c + " " + method + " has seven parameters at most", method.getParameterCount() <= 7);
            }
        }
    }

    private static void fields(Class<?> c) {
        int own = 0;
        for (Field f : c.getDeclaredFields()) {
            if (!Modifier.isStatic(f.getModifiers())) own++;
            else CHECK.holds(c + " " + f + " is a constant", Modifier.isFinal(f.getModifiers()) && f.getType() == int.class);
        }
        CHECK.holds(c + " has some twenty fields at most", own <= 20);
    }

    private static void source(String source) {
        CHECK.holds("signs 1 to 127", source.chars().allMatch(sign -> sign >= 1 && sign <= 127));
        String code = source.replaceAll("(?s)/\\*.*?\\*/", "").replaceAll("//[^\n]*", "")
            .replaceAll("'[^']*'", "' '").replaceAll("\"[^\"\n]*\"", "\"\"");
        for (String word : BARRED) {
            String pattern = word.matches("\\w+") ? "\\b\\w*" + word + "\\b" : Pattern.quote(word);
            if (word.equals("var") || word.equals("try") || word.equals("yield")) pattern = "\\b" + word + "\\b";
            Matcher m = Pattern.compile(pattern).matcher(code);
            CHECK.holds("the code has no " + word, !m.find());
        }
        CHECK.holds("texts are not joined by +", !Pattern.compile("\"\\s*\\+|\\+\\s*\"").matcher(code).find());
        int longest = 0;
        int at = 0;
        for (String line : code.split("\n")) {
            at = line.matches(" {4}(    )?[\\w].*\\{") && line.contains("(") ? 0 : at + 1;
            if (line.matches(" {4}(    )?\\}")) longest = Math.max(longest, at);
        }
        CHECK.holds("methods of some sixty lines at most: " + longest, longest <= 60);
    }
}
