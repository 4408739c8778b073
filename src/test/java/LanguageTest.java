import java.io.IOException;
import java.lang.reflect.Constructor;
import java.lang.reflect.Field;
import java.lang.reflect.Method;
import java.lang.reflect.Modifier;
import java.nio.file.Files;
import java.nio.file.Path;
import java.util.ArrayList;
import java.util.List;
import java.util.Set;
import java.util.TreeSet;
import java.util.regex.Matcher;
import java.util.regex.Pattern;

/** The rules of LANGUAGE.md that a look at the class and at its source can tell; run from the project's folder. */
public final class LanguageTest {
    private static final Set<String> FACE = Set.of(
            "line(int,int,int,int)int", "today(int)int", "terms(int,int)int", "told(int,int,int)int", "fit(int,int)int",
            "best()int", "with(int)int", "rival(int)int", "pair(int)int", "sets(int,int,int,int)int", "size(int)int",
            "in(int,int)int", "set(int)int", "hand(int,int)int", "join(int,int,int)int", "part(int)int", "lock(int,int)int",
            "group(int,int)int", "breaks(int,int)int", "broken(int,int)int", "sum(int)long", "as(int,int)long",
            "explain()int", "explained(int,int)int", "undo()int", "count(int)int", "check()int");

    private static int wrong = 0;

    private static void say(String what) {
        wrong++;
        System.out.println(what);
    }

    private static String signature(Method m) {
        List<String> types = new ArrayList<>();
        for (Class<?> type : m.getParameterTypes()) types.add(type.getSimpleName());
        return m.getName() + "(" + String.join(",", types) + ")" + m.getReturnType().getSimpleName();
    }

    private static void face() {
        Set<String> open = new TreeSet<>(), names = new TreeSet<>();
        for (String member : FACE) names.add(member.substring(0, member.indexOf('(')));
        for (Method m : TwoBooks.class.getDeclaredMethods()) {
            if (!Modifier.isPrivate(m.getModifiers())) open.add(signature(m));
            else if (names.contains(m.getName())) say("a private method has a public one's name: " + m.getName());
            if (!Modifier.isPrivate(m.getModifiers()) && !Modifier.isPublic(m.getModifiers())) say("not public: " + m);
        }
        if (!open.equals(new TreeSet<>(FACE))) say("the face is " + open);
        Set<String> constants = new TreeSet<>();
        for (Field f : TwoBooks.class.getDeclaredFields())
            if (!Modifier.isPrivate(f.getModifiers())) constants.add(Modifier.toString(f.getModifiers()) + " " + f.getType() + " " + f.getName());
        Set<String> due = new TreeSet<>();
        for (String name : List.of("NONE", "TAKEN", "LOCKED", "BIG", "FULL")) due.add("public static final int " + name);
        if (!constants.equals(due)) say("the constants are " + constants);
        Constructor<?>[] made = TwoBooks.class.getDeclaredConstructors();
        if (made.length != 1 || made[0].getParameterCount() != 0 || !Modifier.isPublic(made[0].getModifiers())) say("the constructor");
        if (!Modifier.isFinal(TwoBooks.class.getModifiers())) say("the class is not final");
    }

    private static void classesInside() {
        Class<?>[] inside = TwoBooks.class.getDeclaredClasses();
        if (inside.length > 11) say("too many classes: " + inside.length);
        for (Class<?> c : inside) {
            if (!Modifier.isStatic(c.getModifiers()) || Modifier.isPublic(c.getModifiers())) say(c + " is not static and hidden");
            int fields = 0;
            for (Field f : c.getDeclaredFields()) if (!Modifier.isStatic(f.getModifiers())) fields++;
            if (fields > 20) say(c + " has " + fields + " fields");
        }
        List<Class<?>> all = new ArrayList<>(List.of(inside));
        all.add(TwoBooks.class);
        for (Class<?> c : all)
            for (Field f : c.getDeclaredFields())
                if (Modifier.isStatic(f.getModifiers()) && !Modifier.isFinal(f.getModifiers())) say(f + " is static and changes");
    }

    private static void source() throws IOException {
        String text = Files.readString(Path.of("src/main/java/TwoBooks.java"));
        String code = text.replaceAll("(?s)/\\*.*?\\*/", " ").replaceAll("//[^\n]*", " ");
        for (String word : List.of("throw", "throws", "try", "catch", "finally", "synchronized", "assert", "package", "Object",
                "HashMap", "Exception", "Random", "Thread", "System\\.(?!arraycopy)\\w+", "\\w+Exact", "->", "::"))
            if (Pattern.compile(word.matches("\\W+") ? word : "\\b" + word + "\\b").matcher(code).find()) say("the source has " + word);
        Matcher imports = Pattern.compile("import ([^;]+);").matcher(code);
        while (imports.find()) if (!imports.group(1).equals("java.util.Arrays")) say("import " + imports.group(1));
        for (char c : text.toCharArray()) if (c > 127) say("a sign beyond 127: " + (int) c);
        lengths(code);
    }

    /** A method begins at a line that ends in ") {" in a class's indentation and ends at the bracket below its first letter. */
    private static void lengths(String code) {
        String[] rows = code.split("\n");
        for (int i = 0; i < rows.length; i++) {
            Matcher head = Pattern.compile("^( {4}| {8})(?! )(?!if|for|while|switch|else)[\\w\\[\\]<> ]+\\((.*)\\) \\{$").matcher(rows[i]);
            if (!head.find()) continue;
            int end = i;
            while (end < rows.length && !rows[end].equals(head.group(1) + "}")) end++;
            if (end - i > 60) say("a long method: " + rows[i].trim());
            if (head.group(2).split(",").length > 7) say("many parameters: " + rows[i].trim());
        }
    }

    public static void main(String[] args) throws IOException {
        face();
        classesInside();
        source();
        System.out.println(wrong == 0 ? "the language is kept to" : wrong + " rules are broken");
        if (wrong != 0) System.exit(1);
    }
}
