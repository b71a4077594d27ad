import java.io.IOException;
import java.lang.reflect.Constructor;
import java.lang.reflect.Field;
import java.lang.reflect.Method;
import java.lang.reflect.Modifier;
import java.nio.file.Files;
import java.nio.file.Path;
import java.util.ArrayList;
import java.util.HashSet;
import java.util.List;
import java.util.Set;
import java.util.TreeSet;
import java.util.regex.Matcher;
import java.util.regex.Pattern;

/** The rules of LANGUAGE.md that can be read off the source and the compiled class. */
public final class LanguageTest {
    private static final String FACE = "feed(int,int,int,int,int) house(int) fault() where() reel(int,int) mark(int,int) shows(int) thread(int) "
            + "believes(int,int) starts(int,int) changes(int,int) lost(int,int) black(int,int) tail(int,int) begins(int,int) length(int) "
            + "all(int,int) worst(int) exact(int,int) signs(int) fits() bestSlip(int) bySlip(int) needs(int,int) dies(int,int) firstDies(int) "
            + "free(int,int) arc(int,int) never(int) truly(int,int,boolean) likeliest(int) who(int) far(int) missing(int,boolean) words(int) "
            + "holds(int,int,boolean) pays(int,int) wears(int,int,boolean) apart(int,int) waits(int,int,int) boys(int) well(boolean) wrong() "
            + "exchanges() dark(int,int) bestMan(int,int) threads(int,int) trim(int,boolean) mend(int) undo() image() back(int) led(int) "
            + "size(int) trouble()";
    private static final Set<String> LONGS = Set.of("truly", "holds", "wears", "well");
    private static final Set<String> BOOLEANS = Set.of("threads", "trim", "undo", "back");

    public static void main(String[] args) throws IOException {
        String source = Files.readString(Path.of(args.length > 0 ? args[0] : "src/main/java/ReelChange.java"));
        String code = withoutComments(source);
        face();
        members();
        notThere(code);
        imports(code);
        methods(code);
        Check.end("LanguageTest");
    }

    private static String withoutComments(String source) {
        return source.replaceAll("(?s)/\\*.*?\\*/", "").replaceAll("//[^\n]*", "");
    }

    private static void face() {
        Set<String> due = new TreeSet<>(List.of(FACE.split(" ")));
        Set<String> is = new TreeSet<>();
        for (Method method : ReelChange.class.getDeclaredMethods()) {
            if (!Modifier.isPrivate(method.getModifiers())) {
                StringBuilder types = new StringBuilder();
                for (Class<?> type : method.getParameterTypes()) {
                    types.append(types.length() > 0 ? "," : "").append(type.getName());
                }
                is.add(method.getName() + "(" + types + ")");
                Class<?> back = LONGS.contains(method.getName()) ? long.class : BOOLEANS.contains(method.getName()) ? boolean.class : int.class;
                Check.due("type of " + method, method.getReturnType() == back, true);
                Check.due("throws of " + method, method.getExceptionTypes().length, method.getName().equals("led") ? 1 : 0);
                Check.due("public " + method, Modifier.isPublic(method.getModifiers()) && !Modifier.isStatic(method.getModifiers()), true);
            }
        }
        Check.due("the face " + is, is.equals(due), true);
        Check.due("public and final", ReelChange.class.getModifiers(), Modifier.PUBLIC | Modifier.FINAL);
        Constructor<?>[] makers = ReelChange.class.getDeclaredConstructors();
        Check.due("constructors", makers.length, 1);
        Check.due("its parameters", makers[0].getParameterCount(), 0);
    }

    private static void members() {
        List<Class<?>> classes = new ArrayList<>(List.of(ReelChange.class.getDeclaredClasses()));
        Check.due("classes", classes.size() <= 12, true);
        for (Class<?> inside : classes) {
            Check.due("static " + inside, Modifier.isStatic(inside.getModifiers()), true);
        }
        classes.add(ReelChange.class);
        for (Class<?> each : classes) {
            int own = 0;
            for (Field field : each.getDeclaredFields()) {
                boolean isStatic = Modifier.isStatic(field.getModifiers());
                own += isStatic ? 0 : 1;
                Check.due("final " + field, !isStatic || Modifier.isFinal(field.getModifiers()), true);
                boolean hidden = each != ReelChange.class || Modifier.isPrivate(field.getModifiers()) || field.getName().equals("NONE");
                Check.due("private " + field, hidden, true);
            }
            Check.due("fields of " + each, own <= 20, true);
            for (Method method : each.getDeclaredMethods()) {
                Check.due("parameters of " + method, method.getParameterCount() <= 7, true);
            }
        }
        Set<String> names = new HashSet<>();
        for (String method : FACE.split(" ")) {
            names.add(method.substring(0, method.indexOf('(')));
        }
        for (Class<?> each : classes) {
            for (Method method : each.getDeclaredMethods()) {
                boolean ofFace = each == ReelChange.class && Modifier.isPublic(method.getModifiers());
                Check.due("a name of the face: " + method, !ofFace && names.contains(method.getName()), false);
            }
        }
    }

    private static void notThere(String code) {
        String[] never = {"\\bcatch\\b", "\\btry\\b", "\\bfinally\\b", "\\bsynchronized\\b", "\\bassert\\b", "->", "::", "\\bException\\b",
            "Exact\\b", "\\bstatic\\s*\\{", "\\bdouble\\b", "\\bfloat\\b", "\\bequals\\b", "\\bhashCode\\b", "\\btoString\\b", "\\bvar\\b",
            "\\bpackage\\b", "\\bprotected\\b", "\\bwhile\\s*\\(\\s*true", "for\\s*\\(\\s*;", "\\bSystem\\.(?!arraycopy)", "\\bThread\\b", "\\bRandom\\b"};
        for (String pattern : never) {
            Check.due("found " + pattern, Pattern.compile(pattern).matcher(code).find(), false);
        }
        Matcher thrown = Pattern.compile("\\bthrow\\b[^;]*;").matcher(code);
        while (thrown.find()) {
            Check.due(thrown.group(), thrown.group().equals("throw new NoSuchElementException();"), true);
        }
    }

    private static void imports(String code) {
        Matcher imports = Pattern.compile("import [^;]*;").matcher(code);
        while (imports.find()) {
            Check.due(imports.group(), imports.group().equals("import java.util.NoSuchElementException;"), true);
        }
    }

    /** Methods begin with four or eight blanks and end with a brace as far in. */
    private static void methods(String code) {
        String[] lines = code.split("\n");
        int found = 0;
        for (int i = 0; i < lines.length; i++) {
            Matcher head = Pattern.compile("^( {4}| {8})[a-zA-Z][^=;]*\\)[^=;]*\\{$").matcher(lines[i]);
            if (head.find()) {
                int end = i;
                while (end < lines.length && !lines[end].equals(head.group(1) + "}")) {
                    end++;
                }
                found++;
                Check.due("lines of " + lines[i].trim(), end - i + 1 <= 60, true);
            }
        }
        Check.due("methods found", found > 100, true);
    }
}
