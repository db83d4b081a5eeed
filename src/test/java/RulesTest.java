import java.io.IOException;
import java.lang.reflect.Field;
import java.lang.reflect.Modifier;
import java.nio.charset.StandardCharsets;
import java.nio.file.Files;
import java.nio.file.Path;
import java.util.ArrayList;
import java.util.Arrays;
import java.util.List;
import java.util.regex.Matcher;
import java.util.regex.Pattern;

/** Those rules of LANGUAGE.md that can be read off the text of the class, or off its fields. */
public final class RulesTest {
    private static final Path PROGRAM = Path.of("src", "main", "java", "Aislewright.java");
    /** As methods begin in this file: at an even depth, a name, arguments, and an open brace. */
    private static final Pattern HEAD = Pattern.compile(
            "(?m)^( +)((?:[\\w\\[\\]<>]+ )*)(\\w+)\\(([^)]*)\\)\\s*(?:throws [\\w, ]+)?\\{$");

    /** A method, or a constructor, as it is written. */
    private static final class Written {
        final String modifiers;
        final String name;
        final String parameters;
        final String body;

        Written(Matcher head, String code) {
            modifiers = head.group(2);
            name = head.group(3);
            parameters = head.group(4).strip();
            body = code.substring(head.end(), code.indexOf("\n" + head.group(1) + "}", head.end() - 1));
        }

        int lines() {
            return body.split("\n").length;
        }

        /** Without a word and a point ahead, which would ask another object. */
        boolean callsItself() {
            return Pattern.compile("(?<![\\w.])" + name + "\\(").matcher(body).find();
        }
    }

    public static void main(String[] args) throws IOException {
        String text = Files.readString(PROGRAM, StandardCharsets.ISO_8859_1);
        String code = withoutTexts(text);
        List<Written> methods = methods(code);
        Check.same("methods were found", "true", "" + (methods.size() > 60));
        words(text, code);
        sizes(methods);
        recursion(methods);
        staticFields(Aislewright.class);
        for (Class<?> inside : Aislewright.class.getDeclaredClasses()) {
            staticFields(inside);
        }
        Check.same("11: some twelve classes", "true", "" + (Aislewright.class.getDeclaredClasses().length < 12));
        Check.end("RulesTest");
    }

    /** Comments and texts away, since words in them are free. */
    private static String withoutTexts(String text) {
        return text.replaceAll("(?s)/\\*.*?\\*/", "").replaceAll("//[^\n]*", "").replaceAll("\"[^\"\n]*\"", "\"\"");
    }

    private static List<Written> methods(String code) {
        List<Written> methods = new ArrayList<>();
        Matcher head = HEAD.matcher(code);
        while (head.find()) {
            if (!List.of("if", "for", "while", "switch").contains(head.group(3))) {
                methods.add(new Written(head, code));
            }
        }
        return methods;
    }

    private static void words(String text, String code) {
        Check.same("only signs 1 to 127", "true", "" + text.chars().allMatch(sign -> sign >= 1 && sign <= 127));
        Matcher imported = Pattern.compile("(?m)^import (.*);$").matcher(code);
        while (imported.find()) {
            Check.same("4: import", "java.util.ArrayList", imported.group(1));
        }
        Check.same("1: no package line", "false", "" + code.contains("package "));
        for (String word : new String[] {"try", "catch", "finally", "synchronized", "assert", "float", "var", "yield",
            "System", "Runtime", "Thread", "Random", "equals", "hashCode", "toString", "native", "volatile", "transient"}) {
            Check.same("no word " + word, "false", "" + Pattern.compile("\\b" + word + "\\b").matcher(code).find());
        }
        Check.same("2: no lambda, no method reference", "false", "" + (code.contains("->") || code.contains("::")));
        Check.same("10: no text is joined by +", "false", "" + Pattern.compile("\"\\s*\\+|\\+\\s*\"").matcher(code).find());
        Matcher thrown = Pattern.compile("\\bthrow new (\\w+)").matcher(code);
        List<String> may = List.of("IndexOutOfBoundsException", "IllegalArgumentException", "IllegalStateException");
        int count = 0;
        while (thrown.find()) {
            count++;
            Check.same("6: throw new " + thrown.group(1), "true", "" + may.contains(thrown.group(1)));
        }
        Check.same("6: every throw makes its exception", "" + count, "" + (code.split("\\bthrow\\b").length - 1));
    }

    private static void sizes(List<Written> methods) {
        for (Written method : methods) {
            int parameters = method.parameters.isEmpty() ? 0 : method.parameters.split(",").length;
            Check.same("11: at most seven parameters: " + method.name, "true", "" + (parameters <= 7));
            Check.same("11: some sixty lines: " + method.name, "true", "" + (method.lines() <= 60));
        }
    }

    /** 8: a method that calls itself is private and static, and carries its depth as an argument. */
    private static void recursion(List<Written> methods) {
        int found = 0;
        for (Written method : methods) {
            if (method.callsItself()) {
                found++;
                Check.same("8: " + method.name + " is", "private static int ", method.modifiers);
                Check.same("8: " + method.name + " carries its depth", "true", "" + method.parameters.endsWith("int depth"));
            }
        }
        Check.same("8: methods that call themselves", "1", "" + found);
    }

    private static void staticFields(Class<?> of) {
        int own = 0;
        for (Field field : of.getDeclaredFields()) {
            boolean isStatic = Modifier.isStatic(field.getModifiers());
            own += isStatic ? 0 : 1;
            if (isStatic) {
                boolean plain = Arrays.asList(int.class, long.class, boolean.class, char.class, String.class)
                        .contains(field.getType());
                Check.same("5: " + field + " is a constant", "true", "" + (plain && Modifier.isFinal(field.getModifiers())));
            }
        }
        Check.same("11: some twenty fields: " + of, "true", "" + (own <= 20));
    }
}
