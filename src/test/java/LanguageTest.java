import java.lang.reflect.Constructor;
import java.lang.reflect.Field;
import java.lang.reflect.Method;
import java.lang.reflect.Modifier;
import java.nio.file.Files;
import java.nio.file.Path;
import java.util.ArrayList;
import java.util.List;
import java.util.Set;
import java.util.TreeSet;
import java.util.regex.Matcher;
import java.util.regex.Pattern;

/** What of LANGUAGE.md and of the document's face can be seen from the source and the class. */
public final class LanguageTest {
    private static final String FACE = "lake(int,int,int,int):int ofBoat(int,int):int wind(int,int):int isle(int,boolean):int "
        + "plan(int,int,int,int,int):int soonest(int):int hats(int,int):int rid(int):int reading(int,int,int):int back(int):int "
        + "winds(int,int,int,int,int):int kinds(int,int,int,int,int):int speeds(int,int,int,int,int):int "
        + "odds(int,int,int,int,int):long sheet(int,int,int):int lose(int):int put(int,int,int):int cell(int,int,int):long "
        + "copy(int,int,int,int,int):int tell(int):int hail(int):int as(int,int):int trace():int fault():int many(int):int";
    private static final String CONSTANTS = "UNKNOWN OUTSIDE STATE FULL NONE LOST";
    private static int wrong = 0;

    public static void main(String[] args) throws Exception {
        String source = Files.readString(Path.of("src/main/java/LakeWind.java"));
        face();
        for (Class<?> inside : LakeWind.class.getDeclaredClasses()) {
            insideClass(inside);
        }
        due(LakeWind.class.getDeclaredClasses().length <= 12, "too many classes");
        words(withoutComments(source));
        lengths(source);
        room(withoutComments(source));
        System.out.println(wrong == 0 ? "the language is kept" : wrong + " rules are broken");
        if (wrong != 0) {
            System.exit(1);
        }
    }

    private static void due(boolean is, String what) {
        if (!is) {
            wrong++;
            System.out.println(what);
        }
    }

    private static void face() {
        Class<?> c = LakeWind.class;
        due(Modifier.isPublic(c.getModifiers()) && Modifier.isFinal(c.getModifiers()), "the class is not public and final");
        Set<String> found = new TreeSet<>();
        for (Method m : c.getDeclaredMethods()) {
            if (Modifier.isPrivate(m.getModifiers())) {
                due(!FACE.matches("(.* )?" + m.getName() + "\\(.*"), "a private method bears a public name: " + m.getName());
            } else {
                due(m.getModifiers() == Modifier.PUBLIC, "not just public: " + m);
                found.add(signature(m));
            }
        }
        due(found.equals(new TreeSet<>(List.of(FACE.split(" ")))), "the face is another one: " + found);
        Set<String> constants = new TreeSet<>();
        for (Field f : c.getDeclaredFields()) {
            if (!Modifier.isPrivate(f.getModifiers())) {
                due(f.getModifiers() == (Modifier.PUBLIC | Modifier.STATIC | Modifier.FINAL), "no constant: " + f);
                constants.add(f.getName());
            }
        }
        due(constants.equals(new TreeSet<>(List.of(CONSTANTS.split(" ")))), "other constants: " + constants);
        Constructor<?>[] made = c.getDeclaredConstructors();
        due(made.length == 1 && made[0].getParameterCount() == 0 && Modifier.isPublic(made[0].getModifiers()), "constructors");
        fields(c);
    }

    private static String signature(Method m) {
        List<String> types = new ArrayList<>();
        for (Class<?> type : m.getParameterTypes()) {
            types.add(type.getName());
        }
        return m.getName() + "(" + String.join(",", types) + "):" + m.getReturnType().getName();
    }

    private static void insideClass(Class<?> c) {
        due(Modifier.isStatic(c.getModifiers()), "not static: " + c);
        due(c.getDeclaredClasses().length == 0, "classes inside " + c);
        fields(c);
    }

    private static void fields(Class<?> c) {
        int own = 0;
        for (Field f : c.getDeclaredFields()) {
            if (Modifier.isStatic(f.getModifiers())) {
                due(Modifier.isFinal(f.getModifiers()), "a static field that is not final: " + f);
            } else {
                own++;
            }
        }
        due(own <= 20, "too many fields: " + c);
        for (Method m : c.getDeclaredMethods()) {
            due(m.getParameterCount() <= 7, "too many parameters: " + m);
            due(!m.isSynthetic(), "a lambda or the like: " + m);
        }
    }

    private static String withoutComments(String source) {
        return source.replaceAll("(?s)/\\*.*?\\*/", " ").replaceAll("//[^\n]*", " ");
    }

    private static void words(String code) {
        String[] words = {"throw", "throws", "try", "catch", "finally", "synchronized", "assert", "package", "protected",
            "native", "volatile", "transient", "double", "float", "Object", "Exception", "Thread", "Random", "Scanner"};
        for (String word : words) {
            due(!Pattern.compile("\\b" + word + "\\b").matcher(code).find(), "a word that is ruled out: " + word);
        }
        for (String sign : new String[] {"->", "::", "@", "Exact", "hashCode", "toString", "equals", "System.out"}) {
            due(!code.contains(sign), "a sign that is ruled out: " + sign);
        }
        due(!Pattern.compile("static\\s*\\{").matcher(code).find(), "a static initialiser");
        due(!Pattern.compile("\\bwhile\\b").matcher(code).find(), "a loop without a counter");
        due(!Pattern.compile("for \\(;").matcher(code).find(), "a loop without a counter");
        due(code.chars().allMatch(c -> c < 128), "signs beyond 127");
        Matcher imports = Pattern.compile("import ([^;]+);").matcher(code);
        while (imports.find()) {
            due(imports.group(1).matches("java\\.util\\.(Arrays|ArrayList|List)"), "import " + imports.group(1));
        }
        Matcher calls = Pattern.compile("\\b([A-Z][A-Za-z]+)\\.([a-z][A-Za-z]*)\\(").matcher(code);
        while (calls.find()) {
            String call = calls.group(1) + "." + calls.group(2);
            due(List.of("Arrays.fill", "System.arraycopy", "Math.min", "Math.max").contains(call), "a call of the library: " + call);
        }
    }

    /** A method begins with a line that ends in ") {" at the depth of a member, and ends with a brace there. */
    private static void lengths(String source) {
        String[] lines = source.split("\n");
        for (int indent = 4; indent <= 8; indent += 4) {
            String begin = " ".repeat(indent) + "(?! )(?!\\}|for |if |else|switch ).*\\) \\{";
            int from = -1;
            for (int k = 0; k < lines.length; k++) {
                if (lines[k].matches(begin)) {
                    from = k;
                } else if (from >= 0 && lines[k].equals(" ".repeat(indent) + "}")) {
                    due(k - from + 1 <= 60, "a method of " + (k - from + 1) + " lines: " + lines[from].trim());
                    from = -1;
                }
            }
        }
    }

    /** All calls of a run live in one room: rows are made with the object, and calls make boats alone. */
    private static void room(String code) {
        Pattern maker = Pattern.compile(" +(public )?[A-Z][A-Za-z]*\\(.*| +private static Boat newBoat\\(.*");
        String method = "";
        for (String line : code.split("\n")) {
            if (line.matches("( {4}| {8})(?! )(?!\\}|for |if |switch ).*\\) \\{")) {
                method = line;
            } else if (line.matches("( {4}|)\\}")) {
                method = "";
            }
            boolean makes = line.matches(".*\\bnew\\b.*") && !method.isEmpty();
            due(!makes || maker.matcher(method).matches(), "made outside of constructors: " + line.trim());
        }
    }
}
