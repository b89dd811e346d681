import java.io.IOException;
import java.lang.reflect.Constructor;
import java.lang.reflect.Field;
import java.lang.reflect.Member;
import java.lang.reflect.Method;
import java.lang.reflect.Modifier;
import java.nio.charset.StandardCharsets;
import java.nio.file.Files;
import java.nio.file.Path;
import java.util.ArrayList;
import java.util.Arrays;
import java.util.List;
import java.util.Map;
import java.util.Set;
import java.util.TreeMap;
import java.util.TreeSet;
import java.util.regex.Matcher;
import java.util.regex.Pattern;

/** The face of the document and the rules of LANGUAGE.md, as far as a plain look at the class and its source shows. */
public final class SourceRules {
    private static int wrong;

    public static void main(String[] args) throws IOException {
        String source = read("src/main/java/Schoolhours.java");
        String code = withoutCommentsAndTexts(source);
        face(read("../shared/DOC.md"));
        members();
        words(code);
        lengths(code);
        depths(code);
        System.out.println("rules of the source: " + wrong + " broken");
        System.exit(wrong == 0 ? 0 : 1);
    }

    private static String read(String path) throws IOException {
        return Files.readString(Path.of(path), StandardCharsets.UTF_8);
    }

    private static void rule(boolean isKept, String what) {
        if (!isKept) {
            wrong++;
            System.out.println(what);
        }
    }

    /** Rule 1: the public members are those of the document, with their exceptions, and no others. */
    private static void face(String document) {
        String told = document.substring(document.indexOf("```java") + 7);
        told = told.substring(0, told.indexOf("```"));
        Set<String> due = new TreeSet<>();
        Matcher line = Pattern.compile("public (?:static final )?(\\w+ )?(\\w+)(?:\\(([^)]*)\\)| = -1)"
            + "(?: throws ([^;]*))?;").matcher(told);
        while (line.find()) {
            String parameters = line.group(3) == null ? "" : line.group(3).replaceAll(" \\w+(,|$)", "$1");
            String thrown = line.group(4) == null ? "" : line.group(4);
            due.add((line.group(1) == null ? "" : line.group(1)) + line.group(2) + "(" + parameters + ") " + thrown);
        }
        Set<String> got = new TreeSet<>();
        for (Constructor<?> c : Schoolhours.class.getConstructors()) {
            got.add("Schoolhours(" + names(c.getParameterTypes()) + ") ");
        }
        for (Method m : Schoolhours.class.getDeclaredMethods()) {
            if (Modifier.isPublic(m.getModifiers())) {
                got.add(m.getReturnType().getSimpleName() + " " + m.getName() + "(" + names(m.getParameterTypes())
                    + ") " + names(m.getExceptionTypes()));
            }
        }
        for (Field f : Schoolhours.class.getFields()) {
            got.add(f.getType().getSimpleName() + " " + f.getName() + "() ");
        }
        rule(due.size() == 58, "the document's face has " + due.size() + " members");
        rule(due.equals(got), "the face differs:\n" + due + "\n" + got);
        rule(Modifier.isFinal(Schoolhours.class.getModifiers()), "the class is not final");
    }

    private static String names(Class<?>[] types) {
        List<String> names = new ArrayList<>();
        for (Class<?> type : types) {
            names.add(type.getSimpleName());
        }
        return String.join(", ", names);
    }

    /** Rules 1, 2, 3, 5 and 11, by what the classes have. */
    private static void members() {
        Set<String> open = new TreeSet<>();
        for (Method m : Schoolhours.class.getDeclaredMethods()) {
            if (Modifier.isPublic(m.getModifiers())) {
                open.add(m.getName());
            }
        }
        List<Class<?>> all = new ArrayList<>(Arrays.asList(Schoolhours.class.getDeclaredClasses()));
        rule(all.size() + 1 <= 12, "there are " + (all.size() + 1) + " classes");
        for (Class<?> c : all) {
            rule(Modifier.isPrivate(c.getModifiers()) && Modifier.isStatic(c.getModifiers()), c + " is open");
            rule(c.getDeclaredClasses().length == 0, c + " has classes inside");
        }
        all.add(Schoolhours.class);
        for (Class<?> c : all) {
            int fields = 0;
            for (Field f : c.getDeclaredFields()) {
                boolean isStatic = Modifier.isStatic(f.getModifiers());
                fields += isStatic ? 0 : 1;
                rule(!isStatic || Modifier.isFinal(f.getModifiers()), f + " is static and not final");
                rule(!isStatic || f.getType().isPrimitive() || f.getType().isArray(), f + " is static");
            }
            rule(fields <= 20, c + " has " + fields + " fields");
            for (Method m : c.getDeclaredMethods()) {
                rule(m.getParameterCount() <= 7, m + " has too many parameters");
                boolean isFace = c == Schoolhours.class && Modifier.isPublic(m.getModifiers());
                rule(isFace || !open.contains(m.getName()), m + " bears the name of a public one");
                rule(!m.isSynthetic() && !Modifier.isSynchronized(m.getModifiers()), m + " is made by the compiler");
            }
        }
        for (Class<?> c : List.of(Schoolhours.class)) {
            List<Member> members = new ArrayList<>(Arrays.asList(c.getDeclaredMethods()));
            members.addAll(Arrays.asList(c.getDeclaredFields()));
            for (Member m : members) {
                int how = m.getModifiers();
                rule(Modifier.isPublic(how) || Modifier.isPrivate(how), m + " is neither public nor private");
            }
        }
    }

    /** Rules 2, 4, 6, 10, 13, by words that must not stand in the code. */
    private static void words(String code) {
        String[] banned = {"import", "package", "->", "::", "synchronized", "assert", "finally", "try", "catch",
            "record", "instanceof", "yield", "System\\.(?!arraycopy)", "Math\\.\\w*Exact", "java\\.", "Object", "HashMap",
            "Random", "Thread", "getMessage", "equals", "hashCode", "toString", "native", "goto", "volatile",
            "transient", "strictfp", "var", "\"\\s*\\+", "\\+\\s*\"", "protected", "Math\\.(?!max|min|abs|floor)"};
        for (String word : banned) {
            boolean isName = Character.isLetter(word.charAt(0)) && Character.isLetter(word.charAt(word.length() - 1));
            Matcher m = Pattern.compile(isName ? "\\b" + word + "\\b" : word).matcher(code);
            rule(!m.find(), "the code has " + word);
        }
        Matcher thrown = Pattern.compile("throw (?!new (IllegalArgument|IllegalState|IndexOutOfBounds)Exception\\(\"\"\\);)")
            .matcher(code);
        rule(!thrown.find(), "another exception is thrown");
        for (char sign : code.toCharArray()) {
            rule(sign == '\n' || sign >= 32 && sign < 127, "the code has the sign " + (int) sign);
        }
    }

    /** Rule 11: no method has more than sixty lines; and no line is too long to be read. */
    private static void lengths(String code) {
        String[] lines = code.split("\n");
        int begin = -1;
        String indent = "";
        for (int i = 0; i < lines.length; i++) {
            rule(lines[i].length() <= 120, "line " + (i + 1) + " is too long");
            Matcher head = Pattern.compile("^( {4}| {8})[A-Za-z][^=;]*\\(.*").matcher(lines[i]);
            if (begin < 0 && head.matches()) {
                begin = i;
                indent = head.group(1);
            }
            if (begin >= 0 && lines[i].equals(indent + "}")) {
                rule(i - begin < 60, "the method at line " + (begin + 1) + " is too long");
                begin = -1;
            }
        }
        rule(begin < 0, "a method without an end");
    }

    /** Rule 11: calls go at most eight deep, each method being counted once (so that recursion does not count). */
    private static void depths(String code) {
        Map<String, Set<String>> calls = new TreeMap<>();
        Pattern head = Pattern.compile("^(?: {4}| {8})(?!return |throw |else |new )(?:[\\w\\[\\]]+ )+(\\w+)\\(.*[^;]$");
        Pattern call = Pattern.compile("(?<![\\w.])(?:(\\w+)\\.)?(\\w+)\\(");
        String owner = "Schoolhours";
        String method = "";
        for (String line : code.split("\n")) {
            Matcher inside = Pattern.compile("^    private static final class (\\w+) \\{").matcher(line);
            Matcher begun = head.matcher(line);
            if (inside.find()) {
                owner = inside.group(1);
            } else if (begun.matches()) {
                method = owner + "." + begun.group(1);
                calls.putIfAbsent(method, new TreeSet<>());
            } else if (!method.isEmpty()) {
                Matcher called = call.matcher(line);
                while (called.find()) {
                    String of = called.group(1) == null ? owner : capital(called.group(1));
                    calls.get(method).add(of + "." + called.group(2));
                }
            }
        }
        int most = 0;
        for (String begin : calls.keySet()) {
            most = Math.max(most, depth(calls, begin, new TreeSet<>()));
        }
        rule(calls.size() > 150, "only " + calls.size() + " methods were seen");
        rule(most <= 8, "calls go " + most + " deep");
        rule(most >= 6, "calls were seen " + most + " deep alone");
    }

    private static String capital(String name) {
        return Character.toUpperCase(name.charAt(0)) + name.substring(1);
    }

    private static int depth(Map<String, Set<String>> calls, String method, Set<String> open) {
        if (!calls.containsKey(method) || !open.add(method)) {
            return 0;
        }
        int most = 0;
        for (String called : calls.get(method)) {
            most = Math.max(most, depth(calls, called, open));
        }
        open.remove(method);
        return most + 1;
    }

    private static String withoutCommentsAndTexts(String source) {
        StringBuilder code = new StringBuilder();
        int at = 0;
        while (at < source.length()) {
            char sign = source.charAt(at);
            if (source.startsWith("/*", at)) {
                int end = source.indexOf("*/", at) + 2;
                code.append(source.substring(at, end).replaceAll("[^\n]", ""));
                at = end;
            } else if (source.startsWith("//", at)) {
                at = source.indexOf('\n', at);
            } else if (sign == '"' || sign == '\'') {
                int end = at + 1;
                while (source.charAt(end) != sign) {
                    end += source.charAt(end) == '\\' ? 2 : 1;
                }
                code.append(sign).append(sign);
                at = end + 1;
            } else {
                code.append(sign);
                at++;
            }
        }
        return code.toString();
    }
}
