import java.io.IOException;
import java.lang.reflect.Field;
import java.lang.reflect.Method;
import java.lang.reflect.Modifier;
import java.nio.file.Files;
import java.nio.file.Path;
import java.util.ArrayList;
import java.util.Arrays;
import java.util.List;
import java.util.Set;
import java.util.TreeSet;
import java.util.regex.Matcher;
import java.util.regex.Pattern;

/** The face of the document, and those rules of the language that can be seen from the text. Runs in the checkout. */
public final class RulesTest {
    private static final Check c = new Check();
    private static final String FACE = "feed5 train1 law1 work1 book1 fault0 undo0 told1 wagon2 stands1 ground1 tie2 "
        + "lasts2 would6 can2 cost0 ties1 best1 bestAt2 rather1 load0 loaded1 shunts0 crew1 crewOf2 behind1 "
        + "overtakes3 way2 water1 prefer2 wins3 agendas2 beats0 fits0 look1 stood2 mild2 ahead2 season3 span5 image0 "
        + "restore0 status1 count1";
    private static final String FORBIDDEN = "-> :: catch finally synchronized assert Exact System.out package "
        + "protected volatile native hashCode Random currentTime nanoTime Thread instanceof";

    public static void main(String[] args) throws IOException {
        face();
        String text = Files.readString(Path.of("src/main/java/TownTrain.java"));
        words(text);
        lengths(text);
        names(text);
        library(text);
        staticFields();
        throwsOnly(text);
        madeByMethods(text);
        c.end("RulesTest");
    }

    private static void face() {
        Set<String> want = new TreeSet<>(Arrays.asList(FACE.split(" ")));
        Set<String> got = new TreeSet<>();
        for (Method m : TownTrain.class.getDeclaredMethods()) {
            if (Modifier.isPublic(m.getModifiers())) {
                got.add(m.getName() + m.getParameterCount());
                String type = m.getReturnType().getName();
                String due = m.getName().equals("can") ? "boolean"
                    : m.getName().equals("mild") || m.getName().equals("ahead") ? "long" : "int";
                c.due("type of " + m.getName(), type.equals(due) ? 1 : 0, 1);
            } else {
                c.due("private " + m.getName(), Modifier.isPrivate(m.getModifiers()) ? 1 : 0, 1);
            }
        }
        c.due("the face " + got, got.equals(want) ? 1 : 0, 1);
        c.due("one public field", TownTrain.class.getFields().length, 1);
        c.due("one constructor", TownTrain.class.getConstructors().length, 1);
        c.due("final", Modifier.isFinal(TownTrain.class.getModifiers()) ? 1 : 0, 1);
        for (Class<?> inner : TownTrain.class.getDeclaredClasses()) {
            c.due("static " + inner, Modifier.isStatic(inner.getModifiers()) ? 1 : 0, 1);
            c.due("fields of " + inner, Arrays.stream(inner.getDeclaredFields())
                .filter(f -> !Modifier.isStatic(f.getModifiers())).count() <= 20 ? 1 : 0, 1);
        }
        c.due("classes", TownTrain.class.getDeclaredClasses().length < 12 ? 1 : 0, 1);
    }

    private static void words(String text) {
        for (String word : FORBIDDEN.split(" ")) {
            c.due("the word " + word, text.contains(word) ? 1 : 0, 0);
        }
        for (int i = 0; i < text.length(); i++) {
            if (text.charAt(i) > 126) {
                c.due("sign at " + i, text.charAt(i), 0);
            }
        }
    }

    private static void lengths(String text) {
        String[] lines = text.split("\n");
        Pattern head = Pattern.compile("^( +)(?:[a-z]+ )*[A-Za-z\\[\\]]+ [a-zA-Z]+\\(.*[{,)]$");
        for (int i = 0; i < lines.length; i++) {
            Matcher m = head.matcher(lines[i]);
            if (m.matches() && (m.group(1).length() == 4 || m.group(1).length() == 8)
                    && !lines[i].trim().matches("(return|if|for|while|switch|else|case|throw).*")) {
                int end = i;
                while (end < lines.length && !lines[end].equals(m.group(1) + "}")) {
                    end++;
                }
                c.due("length of " + lines[i].trim(), end - i < 60 ? 1 : 0, 1);
                c.due("parameters of " + lines[i].trim(),
                    lines[i].chars().filter(s -> s == ',').count() < 7 ? 1 : 0, 1);
            }
        }
    }

    private static void names(String text) {
        List<String> face = new ArrayList<>();
        for (String name : FACE.split(" ")) {
            face.add(name.substring(0, name.length() - 1));
        }
        Matcher m = Pattern.compile("\n( +)((?:[a-z]+ )*)[A-Za-z\\[\\]]+ ([a-zA-Z]+)\\([^;\n]*\\{\n").matcher(text);
        while (m.find()) {
            if (!m.group(2).contains("public") && face.contains(m.group(3))) {
                c.due("a name of the face: " + m.group(3), 1, 0);
            }
        }
    }

    /** Rule 4: nothing of the library but what the class is known to use, all of which the rule lists. */
    private static void library(String text) {
        Set<String> imports = Set.of("java.util.Arrays", "java.util.NoSuchElementException");
        Matcher m = Pattern.compile("\nimport ([^;]+);").matcher("\n" + text);
        while (m.find()) {
            c.due("import of " + m.group(1), imports.contains(m.group(1)) ? 1 : 0, 1);
        }
        Set<String> calls = Set.of("Math.min", "Math.max", "Math.abs", "Integer.bitCount", "Arrays.fill",
            "System.arraycopy");
        m = Pattern.compile("\\b(?:Math|Integer|Long|Short|Byte|Character|Boolean|Double|Float|Arrays|System|String"
            + "|StringBuilder|List|Objects)\\.\\w+").matcher(text.replaceAll("import [^;]+;", ""));
        while (m.find()) {
            c.due("call of " + m.group(), calls.contains(m.group()) ? 1 : 0, 1);
        }
    }

    /** Rule 5: no state but in objects. */
    private static void staticFields() {
        Set<String> types = Set.of("int", "long", "boolean", "char", "java.lang.String");
        List<Class<?>> classes = new ArrayList<>(Arrays.asList(TownTrain.class.getDeclaredClasses()));
        classes.add(TownTrain.class);
        for (Class<?> each : classes) {
            for (Field f : each.getDeclaredFields()) {
                if (Modifier.isStatic(f.getModifiers())) {
                    c.due("final " + f, Modifier.isFinal(f.getModifiers()) ? 1 : 0, 1);
                    c.due("type of " + f, types.contains(f.getType().getName()) ? 1 : 0, 1);
                }
            }
        }
    }

    /** Rule 6: only the two exceptions that the document names, each with a written text. */
    private static void throwsOnly(String text) {
        Pattern written = Pattern.compile("throw new (IllegalArgument|NoSuchElement)Exception\\(\"[^\"]*\"\\);");
        for (String line : text.split("\n")) {
            if (line.matches(".*\\bthrow\\b.*")) {
                c.due("throw: " + line.trim(), written.matcher(line.trim()).matches() ? 1 : 0, 1);
            }
        }
    }

    /** Rule 12: rows are made with the object; a method makes a town at most, so that a run stays small. */
    private static void madeByMethods(String text) {
        for (String line : text.split("\n")) {
            boolean field = line.matches(" +private (final )?[A-Za-z]+(\\[\\])? \\w+ = new .*;");
            boolean thrown = line.trim().startsWith("throw new ");
            boolean told = line.trim().startsWith("/*") || line.trim().startsWith("*") || line.contains("//");
            if (line.matches(".*\\bnew\\b.*") && !field && !thrown && !told) {
                c.due("made by a method: " + line.trim(), line.contains("new Town()") ? 1 : 0, 1);
            }
        }
    }
}
