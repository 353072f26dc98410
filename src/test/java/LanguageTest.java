import java.io.IOException;
import java.lang.reflect.Field;
import java.lang.reflect.Method;
import java.lang.reflect.Modifier;
import java.nio.file.Files;
import java.nio.file.Path;
import java.util.Arrays;
import java.util.Set;
import java.util.TreeSet;
import java.util.regex.Matcher;
import java.util.regex.Pattern;

/** The rules of LANGUAGE.md that can be told from the class itself and from its text. */
public final class LanguageTest {
    private static final String SOURCE = "src/main/java/SeaGames.java";
    private static final String FACE = "field(int,int,int)int rule(int,int)int press(int,int,int)int "
            + "hold(int,int,int,int)int leave(int,int,int)int truly(int,int)int machine(int,int)int "
            + "line(int,int,int)int lose(int,int,boolean)int known(int,int,int)int takes(int,int,int,int)int "
            + "shown(int,int,int)int back(int,int)int agreed(int,int)int wrong(int,int,boolean)int price(int,int)int "
            + "best(int)int sees(int,int,int)int could(int,int,int)int couldBe(int,int,int,int)int "
            + "player(int,int)int far(int,int,int)int pairs()int mate(int)int odds(int,int,int,int,boolean)long "
            + "keep(int)int again(int)int tried(int,int,int,int)int differs(int,int)int count(int)int";
    private static int wrong = 0;

    private static void must(boolean holds, String what) {
        if (!holds) {
            wrong++;
            System.out.println(what);
        }
    }

    public static void main(String[] args) throws IOException {
        String source = Files.readString(Path.of(SOURCE));
        // comments and texts say nothing to the compiler
        String code = source.replaceAll("(?s)/\\*.*?\\*/", "").replaceAll("//[^\n]*", "").replaceAll("\"[^\"\n]*\"", "\"\"");
        theFace();
        theClassesInside();
        theWords(code);
        theMethods(code);
        System.out.println(wrong == 0 ? "the language is kept" : wrong + " breaches of the language");
        if (wrong != 0) {
            System.exit(1);
        }
    }

    private static void theFace() {
        Set<String> due = new TreeSet<>(Arrays.asList(FACE.split(" ")));
        Set<String> got = new TreeSet<>();
        Set<String> names = new TreeSet<>();
        for (Method m : SeaGames.class.getDeclaredMethods()) {
            if (Modifier.isPublic(m.getModifiers())) {
                names.add(m.getName());
                got.add(signature(m));
            }
        }
        must(due.equals(got), "the face is " + got + ", due is " + due);
        for (Method m : SeaGames.class.getDeclaredMethods()) {
            int how = m.getModifiers();
            must(Modifier.isPublic(how) || Modifier.isPrivate(how) || m.isSynthetic(), "rule 1: " + m);
            must(Modifier.isPublic(how) || !names.contains(m.getName()), "rule 1, the name: " + m);
        }
        Set<String> constants = new TreeSet<>();
        for (Field f : SeaGames.class.getDeclaredFields()) {
            int how = f.getModifiers();
            must(Modifier.isPublic(how) || Modifier.isPrivate(how), "rule 1: " + f);
            must(!Modifier.isStatic(how) || Modifier.isFinal(how), "rule 5: " + f);
            if (Modifier.isPublic(how)) {
                constants.add(f.getName());
            }
        }
        must(constants.equals(Set.of("UNKNOWN", "BAD", "STATE", "FULL", "NONE")), "the constants are " + constants);
        must(Modifier.isFinal(SeaGames.class.getModifiers()), "rule 1: the class is final");
        must(SeaGames.class.getDeclaredConstructors().length == 1, "rule 1: one constructor");
        must(SeaGames.class.getConstructors().length == 1, "rule 1: it is public");
    }

    private static String signature(Method m) {
        StringBuilder text = new StringBuilder(m.getName()).append('(');
        for (Class<?> c : m.getParameterTypes()) {
            text.append(text.charAt(text.length() - 1) == '(' ? "" : ",").append(c.getName());
        }
        return text.append(')').append(m.getReturnType().getName()).toString();
    }

    private static void theClassesInside() {
        Class<?>[] inside = SeaGames.class.getDeclaredClasses();
        must(inside.length <= 12, "rule 11: " + inside.length + " classes");
        for (Class<?> c : inside) {
            must(Modifier.isStatic(c.getModifiers()), "rule 2: " + c + " is static");
            must(!Modifier.isPublic(c.getModifiers()), "rule 1: " + c + " is not public");
            must(c.getDeclaredFields().length <= 20, "rule 11: fields of " + c);
            for (Method m : c.getDeclaredMethods()) {
                must(m.getParameterCount() <= 7, "rule 11: parameters of " + m);
                must(!FACE.contains(" " + m.getName() + "("), "rule 1, to be sure: " + m);
            }
        }
    }

    private static void theWords(String code) {
        String[] banned = {"throw", "throws", "try", "catch", "finally", "synchronized", "assert", "volatile", "native",
            "transient", "System.out", "Object", "hashCode", "toString", "HashMap", "Map", "Set", "Random", "Thread",
            "double", "float", "yield", "var"};
        for (String word : banned) {
            must(!Pattern.compile("\\b" + Pattern.quote(word) + "\\b").matcher(code).find(), "the code says " + word);
        }
        must(!code.contains("->"), "rule 2: an arrow");
        must(!code.contains("::"), "rule 2: a method reference");
        must(!Pattern.compile("Exact\\s*\\(").matcher(code).find(), "rule 4: a function that ends in Exact");
        must(!code.contains("\"\""), "a text, where none is needed");
        must(code.chars().allMatch(c -> c < 128), "rule 4: a sign above 127");
        must(!Pattern.compile("(?m)^\\s*package\\b").matcher(code).find(), "a package line");
        must(!Pattern.compile("\\bwhile\\b").matcher(code).find(), "rule 9, to be sure: a loop without a counter");
        Matcher imports = Pattern.compile("(?m)^import (.*);").matcher(code);
        while (imports.find()) {
            must(imports.group(1).equals("java.util.Arrays"), "rule 4: import of " + imports.group(1));
        }
        Matcher calls = Pattern.compile("\\b(Math|Integer|Long|Arrays|System)\\.(\\w+)").matcher(code);
        Set<String> fine = Set.of("Math.abs", "Math.min", "Math.max", "Integer.bitCount", "Integer.MAX_VALUE",
                "Arrays.fill", "System.arraycopy");
        while (calls.find()) {
            must(fine.contains(calls.group()), "rule 4: " + calls.group());
        }
    }

    private static void theMethods(String code) {
        String[] lines = code.split("\n");
        int from = -1;
        String indent = "";
        for (int i = 0; i < lines.length; i++) {
            Matcher head = Pattern.compile("^(\\s{4,8})\\S[^=;]*\\)\\s*\\{$").matcher(lines[i]);
            if (from < 0 && head.find() && !lines[i].trim().matches("(if|for|switch|}).*")) {
                from = i;
                indent = head.group(1);
            } else if (from >= 0 && lines[i].equals(indent + "}")) {
                must(i - from <= 60, "rule 11: a method of " + (i - from) + " lines: " + lines[from].trim());
                from = -1;
            }
        }
    }
}
