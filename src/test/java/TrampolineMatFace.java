import java.io.IOException;
import java.lang.reflect.Constructor;
import java.lang.reflect.Field;
import java.lang.reflect.Method;
import java.lang.reflect.Modifier;
import java.nio.file.Files;
import java.nio.file.Path;
import java.util.Arrays;
import java.util.List;
import java.util.Set;
import java.util.TreeSet;

/** The face is the document's and no more, and the source keeps to what can be seen of LANGUAGE.md from outside. */
public final class TrampolineMatFace {
    private static final String FACE = "int feed(int,int,int,int,int);int garden(int);int fault();int count(int);int jumper(int,int);"
        + "int become(int,int,int);boolean obey(int);boolean last(int);int undo();int ran(int,int);int lands(int,int);int film(int,int);"
        + "int mat(int);int landing(int,int);int moment(int,int);int step(int,int,int);int danger(int);int pairs();int apart();"
        + "int without(int,int);long falls(int,int,int,int,int);long wanders(int,int,int,int,int,int);int correct(int,int,int);"
        + "int find(int);int forget();int broken(int);int second(int,int,int,int,int,int);int compare(int,int);int best();"
        + "long egg(int);int afternoons(int,int,int);long safe(int,int,int);int atOnce();int stop(int);int over(int,int,int);"
        + "void image();boolean restore()";
    private static int wrong = 0;

    public static void main(String[] args) throws IOException {
        members();
        insides();
        source();
        System.out.println(wrong == 0 ? "the face is as told" : wrong + " things of the face are not as told");
        if (wrong != 0) System.exit(1);
    }

    private static void due(boolean right, String what) {
        if (!right) {
            wrong++;
            System.out.println(what);
        }
    }

    private static String told(Method m) {
        StringBuilder b = new StringBuilder(m.getReturnType().getName()).append(' ').append(m.getName()).append('(');
        for (Class<?> p : m.getParameterTypes()) b.append(b.charAt(b.length() - 1) == '(' ? "" : ",").append(p.getName());
        return b.append(')').toString();
    }

    private static void members() {
        Class<?> c = TrampolineMat.class;
        due(Modifier.isPublic(c.getModifiers()) && Modifier.isFinal(c.getModifiers()), "the class is public and final");
        Constructor<?>[] made = c.getDeclaredConstructors();
        due(made.length == 1 && Modifier.isPublic(made[0].getModifiers()) && made[0].getParameterCount() == 0, "one public constructor");
        Set<String> open = new TreeSet<>();
        for (Method m : c.getDeclaredMethods()) {
            if (!Modifier.isPrivate(m.getModifiers()) && !m.isSynthetic()) {
                due(Modifier.isPublic(m.getModifiers()) && !Modifier.isStatic(m.getModifiers()), m + " is not a public one of an object");
                open.add(told(m));
            }
        }
        Set<String> face = new TreeSet<>(Arrays.asList(FACE.split(";")));
        due(open.equals(face), "the face is " + open + ", due is " + face);
        for (Field f : c.getDeclaredFields()) {
            boolean isNone = f.getName().equals("NONE");
            due(isNone == Modifier.isPublic(f.getModifiers()) && isNone != Modifier.isPrivate(f.getModifiers()), f + " is seen from outside");
            due(!Modifier.isStatic(f.getModifiers()) || Modifier.isFinal(f.getModifiers()), f + " is static state");
        }
        due(TrampolineMat.NONE == -1, "NONE is -1");
    }

    private static void insides() {
        Set<String> names = new TreeSet<>();
        for (String m : FACE.split(";")) names.add(m.substring(m.indexOf(' ') + 1, m.indexOf('(')));
        Class<?>[] inside = TrampolineMat.class.getDeclaredClasses();
        due(inside.length <= 11, "too many classes: " + inside.length);
        for (Class<?> c : inside) {
            int how = c.getModifiers();
            due(Modifier.isStatic(how) && !Modifier.isPublic(how) && !Modifier.isProtected(how), c + " is not a static class of its own");
            int fields = 0;
            for (Field f : c.getDeclaredFields()) {
                fields += Modifier.isStatic(f.getModifiers()) ? 0 : 1;
                due(!Modifier.isStatic(f.getModifiers()) || Modifier.isFinal(f.getModifiers()), f + " is static state");
            }
            due(fields <= 20, c + " has " + fields + " fields");
            for (Method m : c.getDeclaredMethods()) {
                due(!names.contains(m.getName()), m + " bears a public name");
                due(m.getParameterCount() <= 7, m + " takes too many");
            }
        }
    }

    private static void source() throws IOException {
        List<String> lines = Files.readAllLines(Path.of("src/main/java/TrampolineMat.java"));
        String[] never = {"try", "catch", "finally", "synchronized", "assert", "double", "float", "Object", "Random", "System.exit", "System.out", "static {",
            "->", "::", "Exact(", "var ", "package ", "instanceof", "\" +", "+ \"", ".hashCode", ".toString", "Thread", "nanoTime", "currentTimeMillis"};
        int begun = -1;
        for (int i = 0; i < lines.size(); i++) {
            String line = lines.get(i);
            String code = line.contains("//") ? line.substring(0, line.indexOf("//")) : line.trim().startsWith("/**") ? "" : line;
            for (String n : never) due(!code.matches(".*(^|\\W)\\Q" + n + "\\E.*") && !(n.matches("\\W+") && code.contains(n)), "line " + (i + 1) + " has " + n);
            due(line.chars().allMatch(c -> c >= 32 && c < 127), "line " + (i + 1) + " has a sign beyond 126");
            if (code.startsWith("import")) due(code.equals("import java.util.Arrays;") || code.equals("import java.util.NoSuchElementException;"), code);
            if (code.matches("( {4}| {8})[^ }].*\\) (throws .*)?\\{") && !code.matches(" *(if|for|while|switch|\\}).*")) begun = i;
            if (code.matches("( {4}| {8})\\}") && begun >= 0) {
                due(i - begun <= 60, "line " + (begun + 1) + " begins a long method");
                begun = -1;
            }
        }
    }
}
