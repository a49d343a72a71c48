import java.io.IOException;
import java.lang.reflect.Constructor;
import java.lang.reflect.Field;
import java.lang.reflect.Member;
import java.lang.reflect.Method;
import java.lang.reflect.Modifier;
import java.nio.file.Files;
import java.nio.file.Path;
import java.util.ArrayList;
import java.util.Arrays;
import java.util.HashSet;
import java.util.List;
import java.util.Set;
import java.util.TreeSet;
import java.util.regex.Matcher;
import java.util.regex.Pattern;

/**
 * What of ../shared/LANGUAGE.md can be told by looking at the compiled class and at its source; the
 * first argument is the source's path.
 */
public final class LanguageRules {
    private static int wrong = 0;

    private LanguageRules() { }

    public static void main(String[] args) throws IOException {
        Path source = Path.of(args.length > 0 ? args[0] : "src/main/java/Chainwork.java");
        String text = Files.readString(source);
        String code = withoutCommentsAndTexts(text);
        List<Class<?>> classes = new ArrayList<>(List.of(Chainwork.class));
        classes.addAll(Arrays.asList(Chainwork.class.getDeclaredClasses()));
        faceIsThatOfTheDocument(source);
        membersAreAsRule1And5Want(classes);
        classesAreSmall(classes);
        methodsAreShort(code);
        wordsAreAllowed(text, code);
        exceptionsAreThrownPlainly(text);
        callsGoEightDeepAtMost(code);
        constructorsHandOutNothing(code);
        System.out.println("LanguageRules: " + wrong + " wrong");
        if (wrong != 0) {
            System.exit(1);
        }
    }

    private static void demand(boolean isFine, String what) {
        if (!isFine) {
            wrong++;
            System.out.println(what);
        }
    }

    private static String withoutCommentsAndTexts(String text) {
        String bare = Pattern.compile("/\\*.*?\\*/", Pattern.DOTALL).matcher(text).replaceAll(" ");
        bare = bare.replaceAll("//[^\n]*", " ");
        return bare.replaceAll("\"[^\"\n]*\"", "\"\"").replaceAll("'.'", "' '");
    }

    /** Each line of the face in the document is there as it stands, and nothing else is public. */
    private static void faceIsThatOfTheDocument(Path source) throws IOException {
        Path document = source.toAbsolutePath().getParent().resolve("../../../../shared/DOC.md").normalize();
        if (!Files.exists(document)) {
            demand(false, "there is no " + document);
            return;
        }
        String all = Files.readString(document);
        String face = all.substring(all.indexOf("```java"), all.indexOf("```", all.indexOf("```java") + 3));
        wordsOfTheFaceStandInTheSource(face, Files.readString(source).replaceAll("\\s+", " "));
        Set<String> due = new TreeSet<>();
        Matcher told = Pattern.compile("public (\\w+) (\\w+)\\(([^)]*)\\)([^;]*);").matcher(face);
        while (told.find()) {
            due.add(told.group(1) + " " + told.group(2) + "(" + told.group(3).replaceAll(" \\w+(,|$)", "$1").trim() + ")"
                + told.group(4).replaceAll("\\s+", " "));
        }
        Set<String> got = new TreeSet<>();
        for (Method method : Chainwork.class.getDeclaredMethods()) {
            if (Modifier.isPublic(method.getModifiers())) {
                List<String> types = new ArrayList<>();
                for (Class<?> type : method.getParameterTypes()) {
                    types.add(type.getSimpleName());
                }
                List<String> thrown = new ArrayList<>();
                for (Class<?> type : method.getExceptionTypes()) {
                    thrown.add(type.getSimpleName());
                }
                got.add(method.getReturnType().getSimpleName() + " " + method.getName() + "(" + String.join(", ", types) + ")"
                    + (thrown.isEmpty() ? "" : " throws " + String.join(", ", thrown)));
            }
        }
        demand(due.equals(got), "the face is not that of the document:\n" + due + "\n" + got);
        demand(due.size() == 51, "promises 2 to 52 have a method each, not " + due.size());
    }

    /** The names of parameters and the values of constants, too; a head ends with a bracket, not a semicolon. */
    private static void wordsOfTheFaceStandInTheSource(String face, String source) {
        Matcher line = Pattern.compile("(?m)^ *((?:import|public) .*?)(;| \\{)$").matcher(face);
        int lines = 0;
        while (line.find()) {
            boolean isHead = line.group(1).contains("(");
            demand(source.contains(line.group(1) + (isHead ? " {" : line.group(2))), "not in the source: " + line.group(1));
            lines++;
        }
        demand(lines == 57, "the face has an import, a class, 3 rows of constants, a constructor and 51 methods, not " + lines + " lines");
    }

    private static void membersAreAsRule1And5Want(List<Class<?>> classes) {
        Set<String> face = new HashSet<>();
        for (Method method : Chainwork.class.getDeclaredMethods()) {
            if (Modifier.isPublic(method.getModifiers())) {
                face.add(method.getName());
            }
        }
        Set<String> constants = Set.of("NONE", "RISES", "FALLS", "MIXED", "EQUAL", "LESS", "MORE");
        List<Member> own = new ArrayList<>(Arrays.asList(Chainwork.class.getDeclaredMethods()));
        own.addAll(Arrays.asList(Chainwork.class.getDeclaredFields()));
        for (Member member : own) {
            boolean isFace = member instanceof Method ? face.contains(member.getName()) : constants.contains(member.getName());
            demand(isFace == Modifier.isPublic(member.getModifiers())
                && (isFace || Modifier.isPrivate(member.getModifiers())), "rule 1: " + member);
        }
        Constructor<?>[] constructors = Chainwork.class.getDeclaredConstructors();
        demand(constructors.length == 1 && Modifier.isPublic(constructors[0].getModifiers())
            && constructors[0].getParameterCount() == 0, "rule 1: the constructor");
        demand(Modifier.isFinal(Chainwork.class.getModifiers()), "rule 1: the class is final");
        for (Class<?> one : classes) {
            demand(one == Chainwork.class || Modifier.isStatic(one.getModifiers()), "rule 2: " + one);
            demand(one == Chainwork.class || Modifier.isPrivate(one.getModifiers()), "rule 1: " + one);
            for (Method method : one.getDeclaredMethods()) {
                demand(one == Chainwork.class || !face.contains(method.getName()), "rule 1: a name of the face: " + method);
                demand(method.getParameterCount() <= 7, "rule 11: parameters of " + method);
                demand(!method.isSynthetic(), "rule 2: " + method);
                demand(!Set.of("equals", "hashCode", "toString").contains(method.getName()), "rule 6: " + method);
            }
            for (Constructor<?> constructor : one.getDeclaredConstructors()) {
                demand(constructor.getParameterCount() <= 7, "rule 11: parameters of " + constructor);
            }
            for (Field field : one.getDeclaredFields()) {
                demand(!Modifier.isStatic(field.getModifiers()) || Modifier.isFinal(field.getModifiers()), "rule 5: " + field);
            }
        }
    }

    private static void classesAreSmall(List<Class<?>> classes) {
        demand(classes.size() <= 12, "rule 11: " + classes.size() + " classes");
        for (Class<?> one : classes) {
            int fields = 0;
            for (Field field : one.getDeclaredFields()) {
                fields += Modifier.isStatic(field.getModifiers()) ? 0 : 1;
            }
            demand(fields <= 20, "rule 11: " + fields + " fields in " + one);
            demand(one.getDeclaredClasses().length == 0 || one == Chainwork.class, "rule 2: classes in " + one);
        }
    }

    /** The bodies of the methods, by their names; a name that stands more than once has all its bodies. */
    private static List<String[]> methods(String code) {
        List<String[]> found = new ArrayList<>();
        Matcher head = Pattern.compile("\n {4,8}(?:[\\w<>\\[\\]]+ )*(\\w+)\\([^;{}()]*\\)\\s*(?:throws [\\w, ]+)?\\{").matcher(code);
        while (head.find()) {
            int depth = 1;
            int at = head.end();
            while (depth > 0 && at < code.length()) {
                depth += code.charAt(at) == '{' ? 1 : code.charAt(at) == '}' ? -1 : 0;
                at++;
            }
            found.add(new String[] {head.group(1), code.substring(head.end(), at)});
        }
        return found;
    }

    private static void methodsAreShort(String code) {
        List<String[]> methods = methods(code);
        demand(methods.size() > 100, "only " + methods.size() + " methods were seen");
        for (String[] method : methods) {
            int lines = method[1].split("\n").length;
            demand(lines <= 40, "rule 11: " + lines + " lines in " + method[0]);
        }
    }

    private static void wordsAreAllowed(String text, String code) {
        String[] forbidden = {"->", "::", "\\btry\\b", "\\bcatch\\b", "\\bfinally\\b", "\\bsynchronized\\b", "\\bassert\\b",
            "\\binstanceof\\b", "\\bvar\\b", "\\brecord\\b", "\\bpackage\\b", "Exact\\b", "NaN", "\\bRandom\\b",
            "\\bThread\\b", "currentTime", "nanoTime", "\\bprotected\\b", "\\bvolatile\\b", "\\btransient\\b", "@",
            "\\bFloat\\b", "\\bDouble\\b", "\\bObject\\b", "\\bgetClass\\b", "\\bstatic \\{", "\\bdo\\b", "\\[\\]\\["};
        for (String word : forbidden) {
            demand(!Pattern.compile(word).matcher(code).find(), "a word that is not allowed or not needed: " + word);
        }
        demand(!Pattern.compile("\"\" *\\+|\\+ *\"\"").matcher(code).find(), "rule 10: texts are not joined by +");
        Matcher imported = Pattern.compile("(?m)^import (.*);").matcher(code);
        while (imported.find()) {
            demand(imported.group(1).equals("java.util.NoSuchElementException"), "rule 4: " + imported.group(1));
        }
        Matcher used = Pattern.compile("\\b(Math|Integer|Long|System|Arrays|String|List|Character|Boolean)\\.(\\w+)").matcher(code);
        Set<String> allowed = Set.of("Math.min", "Math.max", "Integer.bitCount", "System.arraycopy");
        while (used.find()) {
            demand(allowed.contains(used.group()), "rule 4: " + used.group());
        }
        for (int i = 0; i < text.length(); i++) {
            demand(text.charAt(i) < 128 && text.charAt(i) != '\t', "a sign that is not plain at " + i);
        }
        for (String line : text.split("\n")) {
            demand(line.length() <= 130, "a long line: " + line);
        }
    }

    private static void exceptionsAreThrownPlainly(String text) {
        Matcher thrown = Pattern.compile("\\bthrow\\b[^\n]*").matcher(text);
        Pattern plain = Pattern.compile("throw new (IllegalStateException|IllegalArgumentException|IndexOutOfBoundsException"
            + "|NoSuchElementException)\\(\"[ -~&&[^\"]]+\"\\);");
        while (thrown.find()) {
            demand(plain.matcher(thrown.group().trim()).matches(), "rule 6: " + thrown.group());
        }
    }

    /** The object's own fields are made of constants alone, and "this" goes nowhere. */
    private static void constructorsHandOutNothing(String code) {
        for (String[] method : methods(code)) {
            boolean isConstructor = Character.isUpperCase(method[0].charAt(0));
            demand(!isConstructor || !Pattern.compile("\\bthis\\b(?![.(])").matcher(method[1]).find(), "rule 12: " + method[0]);
            demand(!isConstructor || !method[1].contains("throw"), "rule 6: a throw in a constructor: " + method[0]);
        }
        Matcher field = Pattern.compile("(?m)^ {4,8}(?:private )?final [\\w\\[\\]]+ \\w+ = (new .*);$").matcher(code);
        int fields = 0;
        while (field.find()) {
            demand(field.group(1).matches("new \\w+(\\([A-Z_]*\\)|\\[[A-Z_* ]+\\])"), "rule 12: " + field.group().trim());
            fields++;
        }
        demand(fields > 30, "only " + fields + " fields were seen");
    }

    /** By names alone: what a method calls, and what these call. No cycle, so no recursion. */
    private static void callsGoEightDeepAtMost(String code) {
        List<String[]> methods = methods(code);
        Set<String> names = new HashSet<>();
        for (String[] method : methods) {
            names.add(method[0]);
        }
        java.util.Map<String, Set<String>> calls = new java.util.HashMap<>();
        for (String[] method : methods) {
            Set<String> called = calls.computeIfAbsent(method[0], key -> new TreeSet<>());
            Matcher call = Pattern.compile("(new )?\\b(\\w+)\\(").matcher(method[1]);
            while (call.find()) {
                if (names.contains(call.group(2)) && !call.group(2).equals(method[0])) {
                    called.add(call.group(2));
                }
            }
        }
        for (Method method : Chainwork.class.getDeclaredMethods()) {
            if (Modifier.isPublic(method.getModifiers())) {
                int depth = depth(method.getName(), calls, new ArrayList<>());
                demand(depth <= 8, "rule 11: calls go " + depth + " deep from " + method.getName());
            }
        }
    }

    private static int depth(String name, java.util.Map<String, Set<String>> calls, List<String> open) {
        if (open.contains(name)) {
            demand(false, "rule 8: " + open + " calls " + name + " again");
            return 0;
        }
        open.add(name);
        int deepest = 0;
        for (String called : calls.get(name)) {
            deepest = Math.max(deepest, depth(called, calls, open));
        }
        open.remove(open.size() - 1);
        return deepest + 1;
    }
}
