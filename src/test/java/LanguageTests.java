import java.io.IOException;
import java.lang.reflect.Constructor;
import java.lang.reflect.Field;
import java.lang.reflect.Method;
import java.lang.reflect.Modifier;
import java.nio.charset.StandardCharsets;
import java.nio.file.Files;
import java.nio.file.Path;
import java.util.Arrays;
import java.util.HashSet;
import java.util.List;
import java.util.Set;
import java.util.TreeSet;
import java.util.regex.Matcher;
import java.util.regex.Pattern;

/** The rules of LANGUAGE.md that can be seen from the class and its text, by their numbers. */
public final class LanguageTests {
    private static final String CALLS = "set(int,int) shaft(int) load(int,int) move(int,int) plan(int,int,int) stop(int) home(int)"
            + " pass(int) of(int,int) waiting(int,int) planned(int,int) count(int) interval(int) restsIn(int) stopsAt(int)"
            + " nextStep(int,int) moveOf(int,int) bestGain(int,int) bears(int) put(long) wipe() fault() carryOut() undo() save(int)"
            + " restore(int)";
    private static final String CONSTANTS = "NO_SUCH BAD_VALUE BAD_TEXT TOO_MANY NOT_POSSIBLE NONE START TOP GAIN GRIP PULL";
    private static final String[] FORBIDDEN = {"throw", "throws", "try", "catch", "finally", "synchronized", "assert", "import",
        "package", "native", "volatile", "transient", "instanceof", "->", "::", "System.", "Math.random", "Exact(", "equals",
        "hashCode", "toString", "protected"};

    private static int wrong = 0;

    private static void hold(String rule, boolean holds) {
        if (!holds) {
            wrong++;
            System.out.println("rule " + rule);
        }
    }

    private static void face() {
        hold("1: public and final", Modifier.isPublic(RampShafts.class.getModifiers()) && Modifier.isFinal(RampShafts.class.getModifiers()));
        Set<String> names = new HashSet<>();
        Set<String> found = new TreeSet<>();
        for (Method method : RampShafts.class.getDeclaredMethods()) {
            if (Modifier.isPrivate(method.getModifiers())) continue;
            hold("1: public " + method, method.getModifiers() == Modifier.PUBLIC && method.getReturnType() == int.class);
            StringBuilder call = new StringBuilder(method.getName()).append('(');
            for (Class<?> type : method.getParameterTypes()) call.append(call.toString().endsWith("(") ? "" : ",").append(type.getName());
            found.add(call.append(')').toString());
            names.add(method.getName());
        }
        hold("1: the calls of the document: " + found, found.equals(new TreeSet<>(Arrays.asList(CALLS.split(" ")))));
        Set<String> constants = new HashSet<>();
        for (Field field : RampShafts.class.getDeclaredFields()) {
            if (!Modifier.isPrivate(field.getModifiers())) constants.add(field.getName());
        }
        hold("1: the constants of the document: " + constants, constants.equals(Set.of(CONSTANTS.split(" "))));
        Constructor<?>[] constructors = RampShafts.class.getDeclaredConstructors();
        hold("1: one constructor", constructors.length == 1 && constructors[0].getModifiers() == Modifier.PUBLIC);
        inside(names);
    }

    private static void inside(Set<String> publicNames) {
        Class<?>[] classes = RampShafts.class.getDeclaredClasses();
        hold("11: some twelve classes", classes.length <= 12);
        for (Class<?> inner : classes) {
            hold("2: static " + inner, Modifier.isStatic(inner.getModifiers()) && inner.getDeclaredClasses().length == 0);
            int fields = 0;
            for (Field field : inner.getDeclaredFields()) {
                if (Modifier.isStatic(field.getModifiers())) hold("5: final " + field, Modifier.isFinal(field.getModifiers()));
                else fields++;
            }
            hold("11: some twenty fields " + inner, fields <= 20);
            for (Method method : inner.getDeclaredMethods()) {
                hold("1: no second " + method, !publicNames.contains(method.getName()));
                hold("11: seven parameters " + method, method.getParameterCount() <= 7);
            }
        }
    }

    private static void text() throws IOException {
        List<String> lines = Files.readAllLines(Path.of("src/main/java/RampShafts.java"), StandardCharsets.US_ASCII);
        int begun = -1;
        for (int i = 0; i < lines.size(); i++) {
            String line = lines.get(i);
            String code = line.replaceAll("//.*|/\\*\\*.*\\*/", "");
            for (String word : FORBIDDEN) {
                boolean isWord = Character.isLetter(word.charAt(0)) && Character.isLetter(word.charAt(word.length() - 1));
                Pattern pattern = isWord ? Pattern.compile("\\b" + word + "\\b") : Pattern.compile(Pattern.quote(word));
                hold("4 or 6: " + word + " in line " + (i + 1), !pattern.matcher(code).find());
            }
            Matcher library = Pattern.compile("\\b(Math|Integer|Long|Arrays|String)\\.(\\w+)").matcher(code);
            while (library.find()) hold("4: " + library.group(), Set.of("min", "max", "abs").contains(library.group(2)));
            hold("the length of line " + (i + 1), line.length() <= 120);
            if (begun < 0 && isHead(code)) begun = i;
            if (begun >= 0 && code.equals(indent(lines.get(begun)) + "}")) {
                hold("11: the method of line " + (begun + 1), i - begun <= 60);
                begun = -1;
            }
        }
    }

    private static String indent(String line) {
        return line.substring(0, line.length() - line.stripLeading().length());
    }

    /** Whether a method or a constructor begins in a line. */
    private static boolean isHead(String code) {
        return code.matches("\\s+\\S.*\\) \\{") && !code.matches("\\s*(\\} else )?(for|if|while|switch) .*");
    }

    /** Nothing is made but in constructors and as a field begins: a call takes no room. */
    private static void room() throws IOException {
        String constructorEnd = null;
        for (String line : Files.readAllLines(Path.of("src/main/java/RampShafts.java"), StandardCharsets.US_ASCII)) {
            if (line.matches("\\s+(public )?[A-Z]\\w+\\(.*\\{")) constructorEnd = indent(line) + "}";
            boolean isField = line.matches("\\s+(private )?final .* = new .*;");
            if (line.matches(".*\\bnew\\b.*")) hold("12: made in a call: " + line, constructorEnd != null || isField);
            if (line.equals(constructorEnd)) constructorEnd = null;
        }
    }

    public static void main(String[] args) throws IOException {
        face();
        text();
        room();
        System.out.println(wrong == 0 ? "all rules hold" : wrong + " rules do not hold");
        if (wrong != 0) System.exit(1);
    }
}
