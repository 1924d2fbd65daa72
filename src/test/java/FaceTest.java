import java.lang.reflect.Constructor;
import java.lang.reflect.Field;
import java.lang.reflect.Method;
import java.lang.reflect.Modifier;
import java.nio.file.Files;
import java.nio.file.Path;
import java.util.ArrayList;
import java.util.Arrays;
import java.util.Collections;
import java.util.List;
import java.util.regex.Matcher;
import java.util.regex.Pattern;

/** The document's face, and what of the language's rules can be seen from outside the compiler. */
final class FaceTest {
    private static final Check C = new Check();
    private static final String FACE = "int again() int answered(int) int ask(int) int asks(int,int,int) int at(int,int) int back(int) int box(int,int) "
        + "int canBe() int cloud(int,int,int) int compare(int) int count(int) int drawn(int,int) int end(int) int engage(int) int fair(int) "
        + "int fault() int feed(int,int,int,int,int) long few(int,int) int first(int,int) int folk(int,int) int force(int) int forget() "
        + "int heard(int,int) int image(int) int law() int leave(int) int meeting(int,int) int needed() int of(int,int) int orders() "
        + "int part(int,int,int) int pass() int ring(int,int) int road(int,int,int) int row() int seasons(int,int) int smash(int) int status() "
        + "int stopped() int terms(int,int) int undo() int way(int,int,int) int where(int,int) int wrong()";

    public static void main(String[] args) throws Exception {
        face();
        classesInside();
        source();
        C.close("FaceTest");
    }

    private static void face() {
        C.part("face");
        Class<?> c = CloudCalls.class;
        C.holds("public and final", Modifier.isPublic(c.getModifiers()) && Modifier.isFinal(c.getModifiers()));
        List<String> have = new ArrayList<>();
        List<String> names = new ArrayList<>();
        for (Method m : c.getDeclaredMethods()) {
            if (Modifier.isPublic(m.getModifiers())) {
                List<String> params = new ArrayList<>();
                for (Class<?> p : m.getParameterTypes()) {
                    params.add(p.getName());
                }
                have.add(m.getReturnType().getName() + " " + m.getName() + "(" + String.join(",", params) + ")");
                names.add(m.getName());
            } else {
                C.holds(m.getName() + " is private", Modifier.isPrivate(m.getModifiers()));
            }
            C.holds(m.getName() + " has at most seven parameters", m.getParameterCount() <= 7);
        }
        List<String> want = new ArrayList<>(Arrays.asList(FACE.split("(?<=\\)) ")));
        Collections.sort(have);
        Collections.sort(want);
        C.holds("the methods are the document's: " + have, have.equals(want));
        for (Method m : c.getDeclaredMethods()) {
            C.holds(m.getName() + ": no private one bears a public name", Modifier.isPublic(m.getModifiers()) || !names.contains(m.getName()));
        }
        for (Field f : c.getDeclaredFields()) {
            C.holds(f.getName() + " is private, but for NONE", f.getName().equals("NONE") ? Modifier.isPublic(f.getModifiers()) : Modifier.isPrivate(f.getModifiers()));
        }
        Constructor<?>[] all = c.getDeclaredConstructors();
        C.holds("one public constructor", all.length == 1 && all[0].getParameterCount() == 0 && Modifier.isPublic(all[0].getModifiers()));
        C.due("NONE", CloudCalls.NONE, -1);
    }

    private static void classesInside() {
        C.part("classes inside");
        Class<?>[] all = CloudCalls.class.getDeclaredClasses();
        C.holds("at most twelve classes", all.length + 1 <= 12);
        for (Class<?> c : all) {
            C.holds(c + " is static", Modifier.isStatic(c.getModifiers()));
            C.holds(c + " is not public", !Modifier.isPublic(c.getModifiers()) && !Modifier.isProtected(c.getModifiers()));
            C.due(c + " has none inside", c.getDeclaredClasses().length, 0);
            C.holds(c + " has at most twenty fields", ownFields(c) <= 20);
        }
        C.holds("at most twenty fields", ownFields(CloudCalls.class) <= 20);
    }

    private static int ownFields(Class<?> c) {
        int own = 0;
        for (Field f : c.getDeclaredFields()) {
            own += Modifier.isStatic(f.getModifiers()) ? 0 : 1;
            C.holds(f + ": what is static is final", !Modifier.isStatic(f.getModifiers()) || Modifier.isFinal(f.getModifiers()));
        }
        return own;
    }

    private static void source() throws Exception {
        C.part("source");
        String text = Files.readString(Path.of("src/main/java/CloudCalls.java"));
        String code = text.replaceAll("(?s)/\\*.*?\\*/", "").replaceAll("//[^\n]*", "").replaceAll("\"[^\"]*\"", "\"\"");
        for (String word : "throw try catch finally synchronized assert package import native volatile transient".split(" ")) {
            C.holds("no " + word, !Pattern.compile("\\b" + word + "\\b").matcher(code).find());
        }
        for (String sign : new String[] {"->", "::", "Exact(", "static {", "hashCode", "toString", ".equals("}) {
            C.holds("no " + sign, !code.contains(sign));
        }
        for (char c : text.toCharArray()) {
            if (c > 126 || c < 32 && c != '\n') {
                C.holds("a sign " + (int) c, false);
            }
        }
        Matcher m = Pattern.compile("\\b(Integer|Long|Math|System|Arrays|String|StringBuilder|List|ArrayList)\\.(\\w+)").matcher(code);
        List<String> allowed = List.of("Integer.bitCount", "Math.min", "Math.max", "System.arraycopy");
        while (m.find()) {
            C.holds(m.group() + " is of the list", allowed.contains(m.group()));
        }
        methodsAreShort(code);
    }

    private static void methodsAreShort(String code) {
        String[] lines = code.split("\n");
        int begin = -1;
        String indent = "";
        for (int i = 0; i < lines.length; i++) {
            Matcher m = Pattern.compile("^(    |        )\\S.*\\) \\{$").matcher(lines[i]);
            if (begin < 0 && m.matches()) {
                begin = i;
                indent = m.group(1);
            } else if (begin >= 0 && lines[i].equals(indent + "}")) {
                C.holds(lines[begin].trim() + " has at most sixty lines", i - begin + 1 <= 60);
                begin = -1;
            }
        }
    }
}
