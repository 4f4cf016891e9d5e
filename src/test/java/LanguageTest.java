import java.lang.reflect.Field;
import java.lang.reflect.Method;
import java.lang.reflect.Modifier;
import java.nio.charset.StandardCharsets;
import java.nio.file.Files;
import java.nio.file.Path;
import java.util.Arrays;
import java.util.List;
import java.util.Set;
import java.util.TreeSet;
import java.util.regex.Matcher;
import java.util.regex.Pattern;

/** The rules of LANGUAGE.md that can be read off the class and its text. */
public final class LanguageTest {
    private static final Check CHECK = new Check();
    private static final List<String> FACE = List.of("int feed(int,int,int,int,int)", "int end(int)", "int fair()",
        "int rule()", "int half(int,int)", "int fit(int,int)", "int buyer(int,int)", "int spot(int,int)",
        "int go(int,int)", "int buy(int,int)", "int shout(int,int)", "boolean swap(int,int,int,int)",
        "int giveUp(int,int)", "int undo()", "int run(int,int)", "int worth(int)", "int with(int,int)",
        "int walk(int,int)", "int chance(int,int,int)", "int yields(int,int,int,int,int)", "int cry(int,int)",
        "int bring(int,int,int)", "int trial(int,int,boolean)", "int forgers(int)", "int seed(int)",
        "int fairs(int,int,int,int)", "int count(int)", "int image(int)", "int back(int)");

    public static void main(String[] args) throws Exception {
        face();
        members();
        text(Files.readString(Path.of("src/main/java/HalfFair.java"), StandardCharsets.UTF_8));
        CHECK.finish();
    }

    private static String told(Method m) {
        StringBuilder text = new StringBuilder(m.getReturnType().getSimpleName() + " " + m.getName() + "(");
        for (Class<?> type : m.getParameterTypes()) {
            text.append(text.charAt(text.length() - 1) == '(' ? "" : ",").append(type.getSimpleName());
        }
        return text.append(")").toString();
    }

    private static void face() {
        Set<String> there = new TreeSet<>();
        for (Method m : HalfFair.class.getDeclaredMethods()) {
            if (!Modifier.isPrivate(m.getModifiers())) {
                CHECK.due(m + " is public and no more", m.getModifiers() == Modifier.PUBLIC, true);
                there.add(told(m));
            }
        }
        CHECK.due("the face " + there, there.equals(new TreeSet<>(FACE)), true);
        CHECK.due("final", HalfFair.class.getModifiers() == (Modifier.PUBLIC | Modifier.FINAL), true);
        CHECK.due("constructors", HalfFair.class.getDeclaredConstructors().length, 1);
        CHECK.due("a public constructor", HalfFair.class.getConstructors().length, 1);
        for (Field field : HalfFair.class.getDeclaredFields()) {
            boolean isPrivate = Modifier.isPrivate(field.getModifiers());
            CHECK.due(field + " is private but for NONE", isPrivate != field.getName().equals("NONE"), true);
        }
    }

    private static void members() {
        List<Class<?>> classes = Arrays.asList(HalfFair.class.getDeclaredClasses());
        CHECK.due("twelve classes", classes.size() + 1 <= 12, true);
        Set<String> names = new TreeSet<>();
        FACE.forEach(m -> names.add(m.substring(m.indexOf(' ') + 1, m.indexOf('('))));
        for (Class<?> c : HalfFair.class.getDeclaredClasses()) {
            CHECK.due(c + " is static", Modifier.isStatic(c.getModifiers()), true);
            CHECK.due(c + " is not public", Modifier.isPublic(c.getModifiers()), false);
            int fields = 0;
            for (Field field : c.getDeclaredFields()) {
                if (Modifier.isStatic(field.getModifiers())) {
                    CHECK.due(field + " is final", Modifier.isFinal(field.getModifiers()), true);
                } else {
                    fields++;
                }
            }
            CHECK.due(c + " has twenty fields at most: " + fields, fields <= 20, true);
            for (Method m : c.getDeclaredMethods()) {
                CHECK.due(m + " has a name of its own", names.contains(m.getName()), false);
            }
        }
        for (Method m : HalfFair.class.getDeclaredMethods()) {
            boolean bears = Modifier.isPrivate(m.getModifiers()) && names.contains(m.getName());
            CHECK.due(m + " has a name of its own", bears, false);
        }
    }

    private static void text(String text) {
        String bare = text.replaceAll("(?s)/\\*.*?\\*/", "").replaceAll("//[^\n]*", "");
        for (String word : List.of("throw", "throws", "try", "catch", "finally", "synchronized", "assert", "protected",
            "package", "native", "volatile", "transient", "HashMap", "Object", "Exception", "Thread", "Random", "var",
            "strictfp", "default void", "String\\[\\]")) {
            CHECK.due("the word " + word, Pattern.compile("\\b" + word + "(?!\\w)").matcher(bare).find(), false);
        }
        CHECK.due("lambdas and method references", bare.contains("->") || bare.contains("::"), false);
        for (char sign : text.toCharArray()) {
            CHECK.due("a sign of " + (int) sign, sign < 127, true);
        }
        Matcher imports = Pattern.compile("(?m)^import (.*);").matcher(bare);
        while (imports.find()) {
            CHECK.due("import " + imports.group(1), imports.group(1).equals("java.util.Arrays"), true);
        }
        methods(bare);
    }

    private static void methods(String bare) {
        Matcher heads = Pattern.compile("(?m)^( +)[\\w\\[\\] ]+\\(([^()]*)\\) \\{$").matcher(bare);
        while (heads.find()) {
            String head = heads.group().trim();
            if (head.matches("(if|for|while|switch|else|\\} else).*")) {
                continue;
            }
            int parameters = heads.group(2).isEmpty() ? 0 : heads.group(2).split(",").length;
            CHECK.due(head + " takes seven at most", parameters <= 7, true);
            int end = bare.indexOf("\n" + heads.group(1) + "}", heads.end());
            long lines = bare.substring(heads.start(), end).lines().count() + 1;
            CHECK.due(head + " has sixty lines at most: " + lines, lines <= 60, true);
        }
    }
}
