import java.io.IOException;
import java.io.UncheckedIOException;
import java.lang.reflect.Constructor;
import java.lang.reflect.Field;
import java.lang.reflect.Method;
import java.lang.reflect.Modifier;
import java.nio.file.Files;
import java.nio.file.Path;
import java.util.ArrayList;
import java.util.Arrays;
import java.util.HashSet;
import java.util.List;
import java.util.Set;
import java.util.TreeSet;
import java.util.regex.Matcher;
import java.util.regex.Pattern;

/** The public face of the document, and the rules of LANGUAGE.md that can be seen without running anything. */
final class FormTests {
    /** Where the class stands; AllTests sets it. */
    static String source;

    private static final String ARGUMENT = "IllegalArgumentException";
    private static final String STATE = "IllegalStateException";
    private static final String INDEX = "IndexOutOfBoundsException";

    private FormTests() {
    }

    private static String face(String type, String name, int parameters, String... exceptions) {
        return type + " " + name + "/" + parameters + " " + String.join(",", exceptions);
    }

    private static Set<String> dueFace() {
        return new TreeSet<>(List.of(
                face("int", "order", 5, ARGUMENT, STATE), face("int", "cancel", 2, ARGUMENT, STATE),
                face("int", "wake", 1, INDEX, STATE), face("int", "sleep", 1, INDEX, STATE),
                face("int", "setDelay", 2, INDEX, ARGUMENT), face("int", "setAlarm", 2, INDEX, ARGUMENT),
                face("int", "work", 2, INDEX, ARGUMENT, STATE), face("int", "pass", 1, ARGUMENT, STATE),
                face("int", "lose", 1, INDEX), face("int", "block", 1, INDEX),
                face("int", "orderOf", 2, INDEX, ARGUMENT), face("int", "orderWith", 2, ARGUMENT),
                face("int", "controller", 2, INDEX, ARGUMENT), face("int", "mail", 2, INDEX, ARGUMENT),
                face("int", "whole", 1, ARGUMENT), face("int", "waitsFor", 1, INDEX),
                face("int", "depth", 1, INDEX), face("int", "nextFor", 1, INDEX), face("int", "reason", 2, INDEX),
                face("int", "doneIn", 0), face("int", "finalValue", 1, INDEX),
                face("int", "type", 1, ARGUMENT, STATE), face("int", "clearCommands", 0),
                face("int", "runCommands", 0), face("int", "undo", 0, STATE), face("long", "digest", 0)));
    }

    static void promiseFaceIsTheDocuments() {
        Set<String> got = new TreeSet<>();
        for (Method method : WokenDrive.class.getDeclaredMethods()) {
            if (!Modifier.isPrivate(method.getModifiers()) && !method.isSynthetic()) {
                Check.holds(method + " is public and no static method",
                        Modifier.isPublic(method.getModifiers()) && !Modifier.isStatic(method.getModifiers()));
                List<String> exceptions = new ArrayList<>();
                for (Class<?> exception : method.getExceptionTypes()) {
                    exceptions.add(exception.getSimpleName());
                }
                got.add(face(method.getReturnType().getName(), method.getName(), method.getParameterCount(),
                        exceptions.toArray(new String[0])));
            }
        }
        Check.holds("the face " + got + " is the document's", got.equals(dueFace()));
        Constructor<?>[] constructors = WokenDrive.class.getDeclaredConstructors();
        Check.holds("one public constructor without parameters", constructors.length == 1
                && Modifier.isPublic(constructors[0].getModifiers()) && constructors[0].getParameterCount() == 0);
        Check.holds("a public final class", Modifier.isPublic(WokenDrive.class.getModifiers())
                && Modifier.isFinal(WokenDrive.class.getModifiers()));
    }

    static void promiseFieldsArePrivateOrTheConstant() {
        for (Field field : WokenDrive.class.getDeclaredFields()) {
            Check.holds(field + " is private or NONE",
                    Modifier.isPrivate(field.getModifiers()) || field.getName().equals("NONE"));
        }
    }

    static void promiseStaticFieldsAreFinal() {
        List<Class<?>> classes = new ArrayList<>(Arrays.asList(WokenDrive.class.getDeclaredClasses()));
        classes.add(WokenDrive.class);
        for (Class<?> each : classes) {
            for (Field field : each.getDeclaredFields()) {
                int modifiers = field.getModifiers();
                Check.holds(field + " is final if it is static",
                        !Modifier.isStatic(modifiers) || Modifier.isFinal(modifiers));
            }
        }
    }

    static void promiseInnerMethodsBearNoPublicName() {
        Set<String> publicNames = new HashSet<>();
        for (Method method : WokenDrive.class.getMethods()) {
            publicNames.add(method.getName());
        }
        for (Method method : WokenDrive.class.getDeclaredMethods()) {
            Check.holds(method + " bears a name of its own",
                    Modifier.isPublic(method.getModifiers()) || !publicNames.contains(method.getName()));
        }
        for (Class<?> inner : WokenDrive.class.getDeclaredClasses()) {
            for (Method method : inner.getDeclaredMethods()) {
                Check.holds(method + " bears a name of its own", inner.isEnum()
                        || !publicNames.contains(method.getName()));
            }
        }
    }

    static void promiseSourceKeepsToTheLanguage() {
        String code = codeWithoutComments();
        for (String word : List.of("import", "package", "try", "catch", "finally", "synchronized", "assert",
                "instanceof", "native", "volatile", "transient", "protected", "Object", "HashMap", "System.out")) {
            Check.holds("the source is without " + word,
                    !Pattern.compile("\\b" + Pattern.quote(word) + "\\b").matcher(code).find());
        }
        Check.holds("the source is without lambdas", !code.contains("->"));
        Check.holds("the source is without method references", !code.contains("::"));
        Check.holds("the source is without static initialiser blocks",
                !Pattern.compile("\\bstatic\\s*\\{").matcher(code).find());
    }

    static void promiseArrayElementsAreReachedWithATestAlone() {
        Matcher use = Pattern.compile("[\\w)]\\[(\\w+)]").matcher(codeWithoutComments());
        Set<String> indices = new TreeSet<>();
        while (use.find()) {
            indices.add(use.group(1));
        }
        indices.remove("MOST_SAVED");
        indices.remove("BLOCKS");
        indices.remove("MOST_ORDERS");
        indices.remove("LONGEST_TEXT");
        indices.remove("MOST_NUMBERS_OF_A_COMMAND");
        Check.holds("only tested indices reach into arrays: " + indices, indices.equals(Set.of("index", "place")));
    }

    private static String codeWithoutComments() {
        try {
            String text = Files.readString(Path.of(source));
            return text.replaceAll("(?s)/\\*.*?\\*/", " ").replaceAll("//[^\n]*", " ");
        } catch (IOException e) {
            throw new UncheckedIOException(e);
        }
    }
}
