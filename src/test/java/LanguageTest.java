import java.lang.reflect.Field;
import java.lang.reflect.Method;
import java.lang.reflect.Modifier;
import java.nio.file.Files;
import java.nio.file.Path;
import java.util.HashSet;
import java.util.List;
import java.util.Set;
import java.util.TreeSet;
import java.util.regex.Matcher;
import java.util.regex.Pattern;

/** What LANGUAGE.md rules out is not in the source, and the face is the document's. Arguments: the source. */
public final class LanguageTest {
    private static final List<String> FACE = List.of(
        "int feed(int,int,int,int,int)", "int back(int)", "int read()", "int place()", "int word(int,int)", "int run(int,int)",
        "int stage(int,int,int)", "int jams(int)", "int way(int,int)", "int order(int)", "int isOn(int)", "boolean turn(int)",
        "boolean swap(int,int)", "int grind(int)", "boolean sell(int)", "int centuries(int)", "boolean undo()", "int stock(int,int)",
        "int made(int,int)", "int pair(int,boolean)", "int orders(int)", "int orderAt(int,int)", "int swaps(int)",
        "int sets(int,boolean,int)", "int list(int)", "int next(int,int)", "int parted(int)", "int derived(int,int,int)",
        "int apart(int,int)", "int rhymes(int,int)", "int bestTurn(int)", "int mostUsed(int,int)", "int lacks(int,int)",
        "int future(int,int,int)", "int sales(int)", "int forged()", "int lives(int)", "int left(int)", "boolean hold(int)",
        "boolean restore(int)", "int count(int)");
    private static int wrong = 0;

    private static void must(boolean holds, String what) {
        if (!holds) {
            wrong++;
            System.out.println("not kept: " + what);
        }
    }

    public static void main(String[] args) throws Exception {
        must(args.length > 0, "the source is told");
        if (args.length > 0) {
            source(Files.readString(Path.of(args[0])));
        }
        face();
        System.out.println(wrong == 0 ? "the rules are kept" : wrong + " rules are not kept");
        if (wrong != 0) {
            System.exit(1);
        }
    }

    private static String bare(String source) {
        return source.replaceAll("(?s)/\\*.*?\\*/", " ").replaceAll("//[^\n]*", " ").replaceAll("\"[^\"\n]*\"", "TEXT")
            .replaceAll("'\\\\?.'", "SIGN");
    }

    private static void source(String source) {
        String bare = bare(source);
        for (String word : List.of("throw", "throws", "try", "catch", "finally", "synchronized", "assert", "package", "protected",
                "native", "volatile", "transient", "goto", "Object", "Random", "Thread", "System.out", "System.in", "nanoTime",
                "currentTimeMillis", "Exception", "hashCode", "HashMap", "HashSet", "Map", "Set", "Optional", "Stream")) {
            must(!Pattern.compile("\\b" + Pattern.quote(word) + "\\b").matcher(bare).find(), "no " + word);
        }
        must(!bare.contains("->"), "no lambda");
        must(!bare.contains("::"), "no method reference");
        must(!bare.contains("Exact("), "none of the Exact functions");
        must(!Pattern.compile("TEXT\\s*\\+|\\+\\s*TEXT").matcher(bare).find(), "no texts joined by +");
        must(!Pattern.compile("while \\(true\\)|for \\(;").matcher(bare).find(), "no loop without a bound");
        Matcher imports = Pattern.compile("import ([^;]+);").matcher(bare);
        while (imports.find()) {
            must(Set.of("java.util.Arrays", "java.util.ArrayList", "java.util.List").contains(imports.group(1)), "import " + imports.group(1));
        }
        for (int i = 0; i < source.length(); i++) {
            must(source.charAt(i) < 128, "signs 1 to 127 alone");
        }
        int classes = 0;
        Matcher found = Pattern.compile("\\b(class|enum|record|interface) \\w+").matcher(bare);
        while (found.find()) {
            classes++;
        }
        must(classes <= 12, "at most twelve classes, not " + classes);
        methodsStayShort(source);
    }

    private static void methodsStayShort(String source) {
        String[] lines = source.split("\n");
        int begin = -1;
        for (int i = 0; i < lines.length; i++) {
            if (begin < 0 && lines[i].matches("\\s+.*\\) \\{") && lines[i].matches("( {4}| {8})\\w.*") && !lines[i].contains(" class ")) {
                begin = i;
            }
            if (begin >= 0 && lines[i].equals(lines[begin].replaceAll("\\S.*", "") + "}")) {
                must(i - begin < 60, "the method at line " + (begin + 1) + " is short");
                begin = -1;
            }
        }
    }

    private static String told(Method method) {
        StringBuilder s = new StringBuilder(method.getReturnType().toString()).append(' ').append(method.getName()).append('(');
        for (int i = 0; i < method.getParameterCount(); i++) {
            s.append(i == 0 ? "" : ",").append(method.getParameterTypes()[i]);
        }
        return s.append(')').toString();
    }

    private static void face() throws Exception {
        Set<String> open = new TreeSet<>();
        Set<String> names = new HashSet<>();
        for (Method method : WordMill.class.getDeclaredMethods()) {
            if (Modifier.isPublic(method.getModifiers())) {
                open.add(told(method));
                names.add(method.getName());
            } else {
                must(Modifier.isPrivate(method.getModifiers()) || method.isSynthetic(), "private: " + method);
            }
        }
        must(open.equals(new TreeSet<>(FACE)), "the face of the document, not " + open);
        must(Modifier.isFinal(WordMill.class.getModifiers()) && Modifier.isPublic(WordMill.class.getModifiers()), "public and final");
        must(WordMill.class.getDeclaredConstructors().length == 1, "one constructor");
        fields(WordMill.class);
        for (Field field : WordMill.class.getDeclaredFields()) {
            must(Modifier.isPrivate(field.getModifiers()) || field.getName().equals("NONE"), "private: " + field);
        }
        for (Class<?> inside : WordMill.class.getDeclaredClasses()) {
            must(Modifier.isStatic(inside.getModifiers()), "static: " + inside);
            fields(inside);
            methods(inside, names);
        }
        methods(WordMill.class, Set.of());
    }

    private static void fields(Class<?> type) {
        int own = 0;
        for (Field field : type.getDeclaredFields()) {
            if (Modifier.isStatic(field.getModifiers())) {
                must(Modifier.isFinal(field.getModifiers()), "final: " + field);
            } else {
                own++;
            }
        }
        must(own <= 20, "some twenty fields in " + type + ", not " + own);
    }

    private static void methods(Class<?> type, Set<String> taken) {
        for (Method method : type.getDeclaredMethods()) {
            must(method.getParameterCount() <= 7, "at most seven parameters: " + method);
            must(!taken.contains(method.getName()), "a name of the face: " + method);
        }
    }
}
