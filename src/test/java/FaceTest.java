import java.io.IOException;
import java.lang.reflect.Constructor;
import java.lang.reflect.Field;
import java.lang.reflect.Member;
import java.lang.reflect.Method;
import java.lang.reflect.Modifier;
import java.nio.file.Files;
import java.nio.file.Path;
import java.util.ArrayList;
import java.util.List;
import java.util.Set;
import java.util.TreeSet;
import java.util.regex.Matcher;
import java.util.regex.Pattern;

/** The face of the document and the rules of LANGUAGE.md that can be seen by a look. */
public final class FaceTest {
    private static final String[] FACE = {
        "engine 4", "store 2", "stage 4", "undo 0", "stuff 2", "set 2", "about 2", "speed 1",
        "split 2", "lots 1", "cheapest 2", "chosen 2", "air 2", "limit 2", "fly 0", "flown 1",
        "out 1", "safe 0", "cost 2", "price 0", "buy 0", "keeping 2", "even 3", "flight 5",
        "deliver 3", "year 0", "flights 0", "count 1"};
    private static final String[] RULED_OUT = {
        "throw", "throws", "try", "catch", "synchronized", "assert", "import", "package", "transient",
        "volatile", "native", "goto", "System", "Thread", "Random", "Object", "Exception", "hashCode",
        "toString", "equals", "Character", "Double", "Float", "Boolean", "Short", "Byte", "var"};

    private static int wrong = 0;

    private static void must(boolean holds, String what) {
        if (!holds) {
            wrong++;
            System.out.println(what);
        }
    }

    public static void main(String[] args) throws IOException {
        face();
        constants();
        insideClasses();
        source(Files.readString(Path.of("src/main/java/StageYard.java")));
        System.out.println(wrong == 0 ? "the face and the language are as told" : wrong + " rules are broken");
        if (wrong != 0) System.exit(1);
    }

    private static void face() {
        must(Modifier.isFinal(StageYard.class.getModifiers()), "rule 1: the class is not final");
        must(Modifier.isPublic(StageYard.class.getModifiers()), "rule 1: the class is not public");
        Set<String> due = new TreeSet<>(Set.of(FACE));
        Set<String> there = new TreeSet<>();
        for (Method m : StageYard.class.getDeclaredMethods()) {
            if (m.isSynthetic() || Modifier.isPrivate(m.getModifiers())) continue;
            there.add(m.getName() + " " + m.getParameterCount());
            must(Modifier.isPublic(m.getModifiers()), "rule 1: " + m + " is neither public nor private");
            must(m.getReturnType() == int.class, "rule 1: " + m + " does not answer an int");
            for (Class<?> type : m.getParameterTypes()) must(type == int.class, "rule 1: " + m + " takes no ints");
        }
        must(there.equals(due), "rule 1: the methods are " + there + ", due are " + due);
        Constructor<?>[] all = StageYard.class.getDeclaredConstructors();
        must(all.length == 1 && all[0].getParameterCount() == 0 && Modifier.isPublic(all[0].getModifiers()),
            "rule 1: the constructor");
    }

    private static void constants() {
        must(StageYard.NONE == -1 && StageYard.BAD == -2, "the constants NONE, BAD");
        must(StageYard.STATE == -3 && StageYard.FULL == -4, "the constants STATE, FULL");
        Set<String> open = new TreeSet<>();
        for (Field f : StageYard.class.getDeclaredFields()) {
            if (!f.isSynthetic() && !Modifier.isPrivate(f.getModifiers())) open.add(f.getName());
        }
        must(open.equals(Set.of("NONE", "BAD", "STATE", "FULL")), "rule 1: the open fields are " + open);
    }

    private static void insideClasses() {
        List<Class<?>> all = new ArrayList<>(List.of(StageYard.class.getDeclaredClasses()));
        must(all.size() <= 11, "rule 11: more than twelve classes");
        Set<String> names = new TreeSet<>();
        for (String one : FACE) names.add(one.split(" ")[0]);
        for (Class<?> inside : all) {
            must(Modifier.isStatic(inside.getModifiers()), "rule 2: " + inside + " is not static");
            must(!Modifier.isPublic(inside.getModifiers()), "rule 1: " + inside + " is public");
            for (Method m : inside.getDeclaredMethods()) {
                must(!names.contains(m.getName()), "rule 1: " + m + " bears a public method's name");
            }
        }
        all.add(StageYard.class);
        for (Class<?> one : all) {
            int fields = 0;
            for (Field f : one.getDeclaredFields()) {
                if (!Modifier.isStatic(f.getModifiers())) fields++;
                must(!Modifier.isStatic(f.getModifiers()) || Modifier.isFinal(f.getModifiers()), "rule 5: " + f);
            }
            must(fields <= 20, "rule 11: " + one + " has " + fields + " fields");
            for (Method m : one.getDeclaredMethods()) {
                must(m.getParameterCount() <= 7, "rule 11: " + m + " takes more than seven");
                must(!bearsPublicName(m, names), "rule 1: " + m + " bears a public method's name");
            }
        }
    }

    private static boolean bearsPublicName(Member m, Set<String> names) {
        return Modifier.isPrivate(m.getModifiers()) && names.contains(m.getName());
    }

    private static void source(String text) {
        String code = text.replaceAll("(?s)/\\*.*?\\*/", "").replaceAll("//[^\n]*", "");
        for (String word : RULED_OUT) {
            must(!Pattern.compile("\\b" + word + "\\b").matcher(code).find(), "LANGUAGE.md rules out: " + word);
        }
        must(!code.contains("->") && !code.contains("::"), "rule 2: a lambda or a method reference");
        must(!code.contains("Exact"), "rule 4: a function that ends in Exact");
        must(!code.contains("\""), "no texts are needed");
        for (char sign : text.toCharArray()) must(sign < 128, "a sign above 127");
        Matcher maths = Pattern.compile("Math\\.(\\w+)").matcher(code);
        while (maths.find()) must(Set.of("max", "min").contains(maths.group(1)), "rule 4: " + maths.group());
        methodLengths(text.split("\n"));
    }

    /** A method begins at a line that ends in ') {' by its indent, and ends at '}' with the same. */
    private static void methodLengths(String[] lines) {
        for (int i = 0; i < lines.length; i++) {
            Matcher head = Pattern.compile("^( {4}| {8})(?!if|for|while|switch)[a-z].*\\) \\{$").matcher(lines[i]);
            if (!head.matches()) continue;
            String end = head.group(1) + "}";
            int length = 1;
            while (i + length < lines.length && !lines[i + length].equals(end)) length++;
            must(length < 60, "rule 11: a method of " + length + " lines: " + lines[i].trim());
        }
    }
}
