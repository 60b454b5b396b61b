import java.io.IOException;
import java.lang.reflect.Method;
import java.lang.reflect.Modifier;
import java.nio.file.Files;
import java.nio.file.Path;
import java.util.ArrayList;
import java.util.Arrays;
import java.util.List;
import java.util.Set;
import java.util.TreeSet;
import java.util.regex.Matcher;
import java.util.regex.Pattern;

/** The face of the document, and those rules of the language that can be seen from the text. Runs in the checkout. */
public final class RulesTest {
    private static final Check c = new Check();
    private static final String FACE = "feed5 train1 law1 work1 book1 fault0 undo0 told1 wagon2 stands1 ground1 tie2 "
        + "lasts2 would6 can2 cost0 ties1 best1 bestAt2 rather1 load0 loaded1 shunts0 crew1 crewOf2 behind1 "
        + "overtakes3 way2 water1 prefer2 wins3 agendas2 beats0 fits0 look1 stood2 mild2 ahead2 season3 span5 image0 "
        + "restore0 status1 count1";
    private static final String FORBIDDEN = "-> :: catch finally synchronized assert Exact System.out package "
        + "protected volatile native hashCode Random currentTime nanoTime Thread instanceof";

    public static void main(String[] args) throws IOException {
        face();
        String text = Files.readString(Path.of("src/main/java/TownTrain.java"));
        words(text);
        lengths(text);
        names(text);
        c.end("RulesTest");
    }

    private static void face() {
        Set<String> want = new TreeSet<>(Arrays.asList(FACE.split(" ")));
        Set<String> got = new TreeSet<>();
        for (Method m : TownTrain.class.getDeclaredMethods()) {
            if (Modifier.isPublic(m.getModifiers())) {
                got.add(m.getName() + m.getParameterCount());
                String type = m.getReturnType().getName();
                String due = m.getName().equals("can") ? "boolean"
                    : m.getName().equals("mild") || m.getName().equals("ahead") ? "long" : "int";
                c.due("type of " + m.getName(), type.equals(due) ? 1 : 0, 1);
            } else {
                c.due("private " + m.getName(), Modifier.isPrivate(m.getModifiers()) ? 1 : 0, 1);
            }
        }
        c.due("the face " + got, got.equals(want) ? 1 : 0, 1);
        c.due("one public field", TownTrain.class.getFields().length, 1);
        c.due("one constructor", TownTrain.class.getConstructors().length, 1);
        c.due("final", Modifier.isFinal(TownTrain.class.getModifiers()) ? 1 : 0, 1);
        for (Class<?> inner : TownTrain.class.getDeclaredClasses()) {
            c.due("static " + inner, Modifier.isStatic(inner.getModifiers()) ? 1 : 0, 1);
            c.due("fields of " + inner, Arrays.stream(inner.getDeclaredFields())
                .filter(f -> !Modifier.isStatic(f.getModifiers())).count() <= 20 ? 1 : 0, 1);
        }
        c.due("classes", TownTrain.class.getDeclaredClasses().length < 12 ? 1 : 0, 1);
    }

    private static void words(String text) {
        for (String word : FORBIDDEN.split(" ")) {
            c.due("the word " + word, text.contains(word) ? 1 : 0, 0);
        }
        for (int i = 0; i < text.length(); i++) {
            if (text.charAt(i) > 126) {
                c.due("sign at " + i, text.charAt(i), 0);
            }
        }
    }

    private static void lengths(String text) {
        String[] lines = text.split("\n");
        Pattern head = Pattern.compile("^( +)(?:[a-z]+ )*[A-Za-z\\[\\]]+ [a-zA-Z]+\\(.*[{,)]$");
        for (int i = 0; i < lines.length; i++) {
            Matcher m = head.matcher(lines[i]);
            if (m.matches() && (m.group(1).length() == 4 || m.group(1).length() == 8)
                    && !lines[i].trim().matches("(return|if|for|while|switch|else|case|throw).*")) {
                int end = i;
                while (end < lines.length && !lines[end].equals(m.group(1) + "}")) {
                    end++;
                }
                c.due("length of " + lines[i].trim(), end - i < 60 ? 1 : 0, 1);
                c.due("parameters of " + lines[i].trim(),
                    lines[i].chars().filter(s -> s == ',').count() < 7 ? 1 : 0, 1);
            }
        }
    }

    private static void names(String text) {
        List<String> face = new ArrayList<>();
        for (String name : FACE.split(" ")) {
            face.add(name.substring(0, name.length() - 1));
        }
        Matcher m = Pattern.compile("\n( +)((?:[a-z]+ )*)[A-Za-z\\[\\]]+ ([a-zA-Z]+)\\([^;\n]*\\{\n").matcher(text);
        while (m.find()) {
            if (!m.group(2).contains("public") && face.contains(m.group(3))) {
                c.due("a name of the face: " + m.group(3), 1, 0);
            }
        }
    }
}
