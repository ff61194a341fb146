import java.io.IOException;
import java.lang.reflect.Constructor;
import java.lang.reflect.Field;
import java.lang.reflect.Method;
import java.lang.reflect.Modifier;
import java.nio.charset.StandardCharsets;
import java.nio.file.Files;
import java.nio.file.Path;
import java.util.Set;
import java.util.TreeSet;
import java.util.regex.Matcher;
import java.util.regex.Pattern;

/** The face is the document's, and what of ../shared/LANGUAGE.md can be seen from the file. */
public final class LanguageTest {
    private static final String[] FACE = {
        "act(int,int,int):int", "at(int,int):int", "back():int", "best(int):int", "book(int,int):int",
        "by(int):int", "can():int", "change(int,int):int", "count(int):int", "day():int",
        "enough():int", "feed(int):int", "gust(int):int", "gusted(int):int",
        "hat(int,int,int,int,int):int", "head(int):int", "how(int):int", "image():int",
        "item(int,int,long):int", "judge(int,int):int", "lasts(int):int", "looked():int",
        "lucky():int", "mean(int,int):long", "odds(int,int):long", "of(int,int):int",
        "on(int,int):int", "own(int,int):int", "put(int,int):int", "quarrel(int,int,int):int",
        "read(int,int):long", "row(int,int,int):int", "see(int,int):int",
        "shift(int,int,int,int,int):int", "skill(int,int):int", "swap():int", "taken(int,int):int",
        "tape(int,int,int):int", "today(int):int", "told(int):int", "town():int", "trace(int):int",
        "undo():int", "who():int", "wore(int):int"
    };
    private static final String[] CONSTANTS = {"BAD:int:-2", "FULL:int:-4", "NO:long:" + Long.MIN_VALUE,
        "NONE:int:-1", "STATE:int:-3"};
    /** What the interface says ahead of its calls, and those calls in their order. */
    private static final String[] SECTIONS = {
        "heads, hats, towns: head hat of at row put own skill feed town told",
        "days, gusts: day gust change",
        "what is done: today enough best on lasts",
        "ways, changes: by can back gusted lucky swap quarrel how",
        "seen, odds, books: see wore who odds mean book looked",
        "judging, the image, acts, tapes: judge image undo act trace taken count tape item read shift"
    };
    private static final String[] BARRED = {
        "throw", "throws", "try", "catch", "finally", "synchronized", "assert", "record", "sealed",
        "var", "volatile", "transient", "native", "hashCode", "toString", "System\\.out",
        "Object", "Exception", "\\w*Exact", "->", "::", "@\\w+", "package"
    };

    public static void main(String[] args) throws IOException, IllegalAccessException {
        methods();
        fieldsAndConstructor();
        classes();
        String source = Files.readString(Path.of("src/main/java/HatsDecide.java"), StandardCharsets.US_ASCII);
        words(source.replaceAll("/\\*(?s:.*?)\\*/|//.*", "").replaceAll("\"[^\"]*\"", "\"\""));
        lengths(source);
        sections(source);
        objectsOfCalls(source);
        Check.end();
    }

    private static void methods() {
        Set<String> is = new TreeSet<>();
        Set<String> names = new TreeSet<>();
        for (Method method : HatsDecide.class.getDeclaredMethods()) {
            if (!Modifier.isPrivate(method.getModifiers())) {
                names.add(method.getName());
                String types = "";
                for (Class<?> type : method.getParameterTypes()) {
                    types += (types.isEmpty() ? "" : ",") + type.getName();
                }
                is.add(method.getName() + "(" + types + "):" + method.getReturnType().getName());
                Check.due(method + " is public", Modifier.isPublic(method.getModifiers()) ? 1 : 0, 1);
                Check.due(method + " is of an object", Modifier.isStatic(method.getModifiers()) ? 1 : 0, 0);
            }
        }
        same("the methods", is, Set.of(FACE));
        for (Class<?> inner : HatsDecide.class.getDeclaredClasses()) {
            for (Method method : inner.getDeclaredMethods()) {
                Check.due("a name of the face: " + method, names.contains(method.getName()) ? 1 : 0, 0);
            }
        }
        for (Method method : HatsDecide.class.getDeclaredMethods()) {
            boolean isPrivate = Modifier.isPrivate(method.getModifiers());
            Check.due("a name of the face: " + method, isPrivate && names.contains(method.getName()) ? 1 : 0, 0);
            Check.due("parameters: " + method, Math.max(7, method.getParameterCount()), 7);
        }
    }

    private static void same(String what, Set<String> is, Set<String> due) {
        Check.due(what + ": " + is, is.equals(due) ? 1 : 0, 1);
    }

    private static void fieldsAndConstructor() throws IllegalAccessException {
        Set<String> is = new TreeSet<>();
        int constant = Modifier.PUBLIC | Modifier.STATIC | Modifier.FINAL;
        for (Field field : HatsDecide.class.getDeclaredFields()) {
            if (!Modifier.isPrivate(field.getModifiers())) {
                Check.due(field + " is a constant", field.getModifiers(), constant);
                is.add(field.getName() + ":" + field.getType().getName() + ":" + field.get(null));
            }
        }
        same("the constants", is, Set.of(CONSTANTS));
        Constructor<?>[] constructors = HatsDecide.class.getDeclaredConstructors();
        Check.due("constructors", constructors.length, 1);
        Check.due("is public", Modifier.isPublic(constructors[0].getModifiers()) ? 1 : 0, 1);
        Check.due("takes nothing", constructors[0].getParameterCount(), 0);
    }

    private static void classes() {
        Check.due("final", Modifier.isFinal(HatsDecide.class.getModifiers()) ? 1 : 0, 1);
        Class<?>[] inner = HatsDecide.class.getDeclaredClasses();
        Check.due("some twelve classes", Math.max(12, 1 + inner.length), 12);
        fields(HatsDecide.class);
        for (Class<?> one : inner) {
            Check.due(one + " is static", Modifier.isStatic(one.getModifiers()) ? 1 : 0, 1);
            Check.due(one + " is hidden", Modifier.isPublic(one.getModifiers()) ? 1 : 0, 0);
            Check.due(one + " has no classes", one.getDeclaredClasses().length, 0);
            fields(one);
        }
    }

    private static void fields(Class<?> one) {
        int fields = 0;
        for (Field field : one.getDeclaredFields()) {
            boolean isStatic = Modifier.isStatic(field.getModifiers());
            fields += isStatic ? 0 : 1;
            Check.due(field + " is final", !isStatic || Modifier.isFinal(field.getModifiers()) ? 1 : 0, 1);
        }
        Check.due(one + " has some twenty fields", Math.max(20, fields), 20);
    }

    private static void words(String code) {
        for (String word : BARRED) {
            Matcher matcher = Pattern.compile("(?<!\\w)" + word + "(?!\\w)").matcher(code);
            Check.due("has '" + word + "'", matcher.find() ? 1 : 0, 0);
        }
        Matcher imports = Pattern.compile("import ([^;]*);").matcher(code);
        while (imports.find()) {
            Check.due(imports.group(), imports.group(1).equals("java.util.Arrays") ? 1 : 0, 1);
        }
        Matcher library = Pattern.compile("\\b(Math|Integer|Long|System|Arrays)\\.(\\w+)").matcher(code);
        Set<String> allowed = Set.of("Math.min", "Math.max", "Math.abs", "Integer.compare",
                "Integer.bitCount", "System.arraycopy", "Arrays.fill", "Long.MIN_VALUE");
        while (library.find()) {
            Check.due(library.group(), allowed.contains(library.group()) ? 1 : 0, 1);
        }
    }

    /** How long methods are, from a line that opens one to the line that ends it likewise far in. */
    private static void lengths(String source) {
        String[] lines = source.split("\n");
        for (int i = 0; i < lines.length; i++) {
            Matcher opens = Pattern.compile("^( {4}| {8})(?=\\w)[\\w\\[\\] ]+\\(.*\\) \\{$").matcher(lines[i]);
            if (opens.find()) {
                int end = i;
                while (end < lines.length && !lines[end].equals(opens.group(1) + "}")) {
                    end++;
                }
                Check.due("length of" + lines[i], Math.max(60, end - i + 1), 60);
            }
        }
    }

    /** The calls in the order of the interface, behind what it says ahead of them. */
    private static void sections(String source) {
        StringBuilder is = new StringBuilder();
        Matcher matcher = Pattern.compile("(?m)^ {4}// ---- (.*)$|^ {4}public (?:int|long) (\\w+)\\(").matcher(source);
        while (matcher.find()) {
            is.append(matcher.group(1) != null ? "\n" + matcher.group(1) + ":" : " " + matcher.group(2));
        }
        // Behind the face come the sections of what is private; they have no calls.
        for (String section : SECTIONS) {
            Check.yes("as the interface says: " + section, is.indexOf("\n" + section + "\n") >= 0);
        }
        for (int i = 1; i < SECTIONS.length; i++) {
            Check.yes("in its order: " + SECTIONS[i], is.indexOf(SECTIONS[i - 1]) < is.indexOf(SECTIONS[i]));
        }
    }

    /** All calls share one room: rows are made with the object, and no call makes any but hat() its HAT. */
    private static void objectsOfCalls(String source) {
        String method = "";
        for (String line : source.split("\n")) {
            Matcher opens = Pattern.compile("^ {4,8}(?=\\w)[\\w\\[\\] ]*?(\\w+)\\(.*\\) \\{$").matcher(line);
            if (opens.find() && !opens.group(1).matches("if|for|while|switch")) {
                method = opens.group(1);
            }
            boolean isOfAField = line.matches("^ {4,8}(private |static |final ).* = (new |\\{).*;$");
            if (line.matches(".*(\\bnew [A-Za-z]|= \\{).*") && !isOfAField) {
                Check.yes("made in " + method + ":" + line, method.equals("HatsDecide") || method.equals("newHat"));
            }
        }
    }
}
