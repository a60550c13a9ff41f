import java.io.IOException;
import java.lang.reflect.Constructor;
import java.lang.reflect.Field;
import java.lang.reflect.Method;
import java.lang.reflect.Modifier;
import java.nio.file.Files;
import java.nio.file.Path;
import java.util.ArrayList;
import java.util.Arrays;
import java.util.List;
import java.util.TreeSet;
import java.util.regex.Matcher;
import java.util.regex.Pattern;

/** The public face of the document, and those rules of LANGUAGE.md that can be seen without reading the sense. */
final class FaceTest {
    private static final String[] METHODS = {
        "reset(int)", "setFinal(int,boolean)", "addRule(int,int,int,int,int)", "removeRule(int)",
        "swapStates(int,int)", "ruleCount()", "finalStates()", "treeCount(int)", "treeOf(int,int,int)",
        "symbolOf(int)", "childOf(int,int)", "sizeOf(int)", "heightOf(int)", "subsetOf(int)", "accepts(int)",
        "runCount(int,int)", "acceptedCount(int)", "acceptedTree(int,int)", "treesOfSet(int)", "reachedSets()",
        "isReachable(int)", "isEmpty()", "isUniversal()", "isComplete()", "isDeterministic()", "leastHeight()",
        "undo()"};
    private static final String[] CONSTANTS = {
        "INVALID_ARGUMENT", "LIMIT_REACHED", "NOT_FOUND", "ANY", "EQUAL", "DIFFERENT", "MANY"};
    private static final String[] FORBIDDEN = {
        "package", "throw", "throws", "try", "catch", "finally", "synchronized", "assert", "protected", "volatile",
        "native", "HashMap", "HashSet", "Random", "Thread", "Object", "\\w+Exact", "currentTimeMillis", "nanoTime"};

    private FaceTest() {
    }

    public static void main(String[] args) throws IOException {
        Class<?> face = BrotherAutomata.class;
        Check.holds("the class is public and final",
                Modifier.isPublic(face.getModifiers()) && Modifier.isFinal(face.getModifiers()));
        constants();
        constructor(face);
        methods(face);
        fields(face);
        classesInside(face);
        source(Path.of(args.length > 0 ? args[0] : "src/main/java/BrotherAutomata.java"));
        Check.close("FaceTest");
    }

    private static void constants() {
        Check.due("INVALID_ARGUMENT", BrotherAutomata.INVALID_ARGUMENT, -1);
        Check.due("LIMIT_REACHED", BrotherAutomata.LIMIT_REACHED, -2);
        Check.due("NOT_FOUND", BrotherAutomata.NOT_FOUND, -3);
        Check.due("ANY", BrotherAutomata.ANY, 0);
        Check.due("EQUAL", BrotherAutomata.EQUAL, 1);
        Check.due("DIFFERENT", BrotherAutomata.DIFFERENT, 2);
        Check.due("MANY", BrotherAutomata.MANY, 2);
    }

    private static void constructor(Class<?> face) {
        Constructor<?>[] all = face.getDeclaredConstructors();
        Check.due("number of constructors", all.length, 1);
        Check.holds("the constructor is public and has no parameters",
                Modifier.isPublic(all[0].getModifiers()) && all[0].getParameterCount() == 0);
    }

    private static void methods(Class<?> face) {
        TreeSet<String> open = new TreeSet<>();
        TreeSet<String> openNames = new TreeSet<>();
        for (Method method : face.getDeclaredMethods()) {
            if (!Modifier.isPrivate(method.getModifiers())) {
                Check.holds(method + " is public, of objects, and answers int",
                        Modifier.isPublic(method.getModifiers()) && !Modifier.isStatic(method.getModifiers())
                        && method.getReturnType() == int.class);
                open.add(signature(method));
                openNames.add(method.getName());
            }
        }
        Check.holds("methods of the face: " + open, open.equals(new TreeSet<>(Arrays.asList(METHODS))));
        List<Class<?>> all = new ArrayList<>(Arrays.asList(face.getDeclaredClasses()));
        all.add(face);
        for (Class<?> one : all) {
            for (Method method : one.getDeclaredMethods()) {
                Check.holds(method + " has a name of its own",
                        Modifier.isPublic(method.getModifiers()) || !openNames.contains(method.getName()));
                Check.holds(method + " has at most seven parameters", method.getParameterCount() <= 7);
            }
        }
    }

    private static String signature(Method method) {
        List<String> types = new ArrayList<>();
        for (Class<?> type : method.getParameterTypes()) {
            types.add(type.getSimpleName());
        }
        return method.getName() + "(" + String.join(",", types) + ")";
    }

    private static void fields(Class<?> face) {
        TreeSet<String> open = new TreeSet<>();
        for (Field field : face.getDeclaredFields()) {
            int modifiers = field.getModifiers();
            if (!Modifier.isPrivate(modifiers)) {
                Check.holds(field + " is a public constant", Modifier.isPublic(modifiers)
                        && Modifier.isStatic(modifiers) && Modifier.isFinal(modifiers) && field.getType() == int.class);
                open.add(field.getName());
            }
        }
        Check.holds("constants of the face: " + open, open.equals(new TreeSet<>(Arrays.asList(CONSTANTS))));
    }

    private static void classesInside(Class<?> face) {
        Check.holds("at most twelve classes", face.getDeclaredClasses().length < 12);
        for (Class<?> inside : face.getDeclaredClasses()) {
            int modifiers = inside.getModifiers();
            Check.holds(inside + " is static and not public", Modifier.isStatic(modifiers)
                    && !Modifier.isPublic(modifiers) && !Modifier.isProtected(modifiers));
            for (Field field : inside.getDeclaredFields()) {
                Check.holds(field + " is no state shared by objects",
                        !Modifier.isStatic(field.getModifiers()) || Modifier.isFinal(field.getModifiers()));
            }
        }
    }

    private static void source(Path file) throws IOException {
        String text = Files.readString(file).replaceAll("(?s)/\\*.*?\\*/", "").replaceAll("//[^\n]*", "");
        for (String word : FORBIDDEN) {
            Check.holds("no word " + word, !Pattern.compile("\\b" + word + "\\b").matcher(text).find());
        }
        Check.holds("no lambda and no method reference", !text.contains("->") && !text.contains("::"));
        Matcher imports = Pattern.compile("import ([^;]*);").matcher(text);
        while (imports.find()) {
            Check.holds("import of " + imports.group(1), imports.group(1).equals("java.util.Arrays"));
        }
    }
}
