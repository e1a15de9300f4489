import java.io.IOException;
import java.io.UncheckedIOException;
import java.lang.reflect.Constructor;
import java.lang.reflect.Field;
import java.lang.reflect.Method;
import java.lang.reflect.Modifier;
import java.nio.file.Files;
import java.nio.file.Path;
import java.util.ArrayList;
import java.util.Arrays;
import java.util.HashSet;
import java.util.List;
import java.util.Set;
import java.util.TreeSet;
import java.util.regex.Matcher;
import java.util.regex.Pattern;

/** The public face of the document, and the rules of LANGUAGE.md that can be seen without running anything. */
final class FormTests {
    /** Where the class stands; AllTests sets it. */
    static String source;

    private static final String ARGUMENT = "IllegalArgumentException";
    private static final String STATE = "IllegalStateException";
    private static final String INDEX = "IndexOutOfBoundsException";

    private static final String[][] HEADINGS = {
        {"orders", "int order", "int cancel"},
        {"controllers and ticks", "int wake", "int sleep", "int setDelay", "int setAlarm", "int work", "int pass",
            "int lose"},
        {"values", "int block", "int orderOf", "int orderWith", "int controller", "int mail", "int whole"},
        {"what if, which changes nothing", "int waitsFor", "int depth", "int nextFor", "int reason", "int doneIn",
            "int finalValue"},
        {"command text, undo and checksum", "int type", "int clearCommands", "int runCommands", "int undo",
            "long digest"},
    };

    private FormTests() {
    }

    private static String face(String type, String name, int parameters, String... exceptions) {
        return type + " " + name + "/" + parameters + " " + String.join(",", exceptions);
    }

    private static Set<String> dueFace() {
        return new TreeSet<>(List.of(
                face("int", "order", 5, ARGUMENT, STATE), face("int", "cancel", 2, ARGUMENT, STATE),
                face("int", "wake", 1, INDEX, STATE), face("int", "sleep", 1, INDEX, STATE),
                face("int", "setDelay", 2, INDEX, ARGUMENT), face("int", "setAlarm", 2, INDEX, ARGUMENT),
                face("int", "work", 2, INDEX, ARGUMENT, STATE), face("int", "pass", 1, ARGUMENT, STATE),
                face("int", "lose", 1, INDEX), face("int", "block", 1, INDEX),
                face("int", "orderOf", 2, INDEX, ARGUMENT), face("int", "orderWith", 2, ARGUMENT),
                face("int", "controller", 2, INDEX, ARGUMENT), face("int", "mail", 2, INDEX, ARGUMENT),
                face("int", "whole", 1, ARGUMENT), face("int", "waitsFor", 1, INDEX),
                face("int", "depth", 1, INDEX), face("int", "nextFor", 1, INDEX), face("int", "reason", 2, INDEX),
                face("int", "doneIn", 0), face("int", "finalValue", 1, INDEX),
                face("int", "type", 1, ARGUMENT, STATE), face("int", "clearCommands", 0),
                face("int", "runCommands", 0), face("int", "undo", 0, STATE), face("long", "digest", 0)));
    }

    static void promiseFaceIsTheDocuments() {
        Set<String> got = new TreeSet<>();
        for (Method method : WokenDrive.class.getDeclaredMethods()) {
            if (!Modifier.isPrivate(method.getModifiers()) && !method.isSynthetic()) {
                Check.holds(method + " is public and no static method",
                        Modifier.isPublic(method.getModifiers()) && !Modifier.isStatic(method.getModifiers()));
                List<String> exceptions = new ArrayList<>();
                for (Class<?> exception : method.getExceptionTypes()) {
                    exceptions.add(exception.getSimpleName());
                }
                got.add(face(method.getReturnType().getName(), method.getName(), method.getParameterCount(),
                        exceptions.toArray(new String[0])));
            }
        }
        Check.holds("the face " + got + " is the document's", got.equals(dueFace()));
        Constructor<?>[] constructors = WokenDrive.class.getDeclaredConstructors();
        Check.holds("one public constructor without parameters", constructors.length == 1
                && Modifier.isPublic(constructors[0].getModifiers()) && constructors[0].getParameterCount() == 0);
        Check.holds("a public final class", Modifier.isPublic(WokenDrive.class.getModifiers())
                && Modifier.isFinal(WokenDrive.class.getModifiers()));
    }

    /** "All numbers are whole.": the face knows no other type than int, but for the digest. */
    static void promiseFaceTakesIntsAlone() {
        for (Method method : WokenDrive.class.getDeclaredMethods()) {
            for (Class<?> type : method.getParameterTypes()) {
                Check.holds(method + " takes ints alone", !Modifier.isPublic(method.getModifiers())
                        || type == int.class);
            }
        }
    }

    /** "public static final int NONE = -1;" */
    static void promiseNoneIsAConstantOfTheFace() throws NoSuchFieldException {
        Field none = WokenDrive.class.getDeclaredField("NONE");
        Check.holds("NONE is an int", none.getType() == int.class);
        Check.same("modifiers of NONE", Modifier.PUBLIC | Modifier.STATIC | Modifier.FINAL, none.getModifiers());
        Check.same("NONE", -1, WokenDrive.NONE);
    }

    /** "Ahead of the calls `order`, `cancel` the interface says: ---- orders.", and so on. */
    static void promiseHeadingsStandAheadOfTheirCalls() {
        String text = sourceText();
        int from = 0;
        for (String[] part : HEADINGS) {
            from = placeBehind(text, "    // ---- " + part[0] + "\n", from);
            for (int call = 1; call < part.length; call++) {
                from = placeBehind(text, " " + part[call] + "(", from);
            }
        }
    }

    private static int placeBehind(String text, String piece, int from) {
        int place = text.indexOf(piece, from);
        Check.holds("'" + piece.strip() + "' at its place", place >= 0);
        return place + piece.length();
    }

    static void promiseFieldsArePrivateOrTheConstant() {
        for (Field field : WokenDrive.class.getDeclaredFields()) {
            Check.holds(field + " is private or NONE",
                    Modifier.isPrivate(field.getModifiers()) || field.getName().equals("NONE"));
        }
    }

    static void promiseStaticFieldsAreFinal() {
        List<Class<?>> classes = new ArrayList<>(Arrays.asList(WokenDrive.class.getDeclaredClasses()));
        classes.add(WokenDrive.class);
        for (Class<?> each : classes) {
            for (Field field : each.getDeclaredFields()) {
                int modifiers = field.getModifiers();
                Check.holds(field + " is final if it is static",
                        !Modifier.isStatic(modifiers) || Modifier.isFinal(modifiers));
            }
        }
    }

    static void promiseInnerMethodsBearNoPublicName() {
        Set<String> publicNames = new HashSet<>();
        for (Method method : WokenDrive.class.getMethods()) {
            publicNames.add(method.getName());
        }
        for (Method method : WokenDrive.class.getDeclaredMethods()) {
            Check.holds(method + " bears a name of its own",
                    Modifier.isPublic(method.getModifiers()) || !publicNames.contains(method.getName()));
        }
        for (Class<?> inner : WokenDrive.class.getDeclaredClasses()) {
            for (Method method : inner.getDeclaredMethods()) {
                Check.holds(method + " bears a name of its own", inner.isEnum()
                        || !publicNames.contains(method.getName()));
            }
        }
    }

    static void promiseSourceKeepsToTheLanguage() {
        String code = codeWithoutComments();
        for (String word : List.of("import", "package", "try", "catch", "finally", "synchronized", "assert",
                "instanceof", "native", "volatile", "transient", "protected", "Object", "HashMap", "System.out")) {
            Check.holds("the source is without " + word,
                    !Pattern.compile("\\b" + Pattern.quote(word) + "\\b").matcher(code).find());
        }
        Check.holds("the source is without lambdas", !code.contains("->"));
        Check.holds("the source is without method references", !code.contains("::"));
        Check.holds("the source is without static initialiser blocks",
                !Pattern.compile("\\bstatic\\s*\\{").matcher(code).find());
    }

    static void promiseArrayElementsAreReachedWithATestAlone() {
        Matcher use = Pattern.compile("[\\w)]\\[(\\w+)]").matcher(codeWithoutComments());
        Set<String> indices = new TreeSet<>();
        while (use.find()) {
            indices.add(use.group(1));
        }
        indices.remove("MOST_SAVED");
        indices.remove("BLOCKS");
        indices.remove("MOST_ORDERS");
        indices.remove("LONGEST_TEXT");
        indices.remove("MOST_NUMBERS_OF_A_COMMAND");
        Check.holds("only tested indices reach into arrays: " + indices, indices.equals(Set.of("index", "place")));
    }

    /** LANGUAGE.md, rules 2, 11: "the file has at most some twelve classes, and a class some twenty fields". */
    static void promiseClassesAreFewAndSmall() {
        List<Class<?>> classes = new ArrayList<>(Arrays.asList(WokenDrive.class.getDeclaredClasses()));
        Check.holds("classes inside are static and not public", classes.stream().allMatch(each ->
                Modifier.isStatic(each.getModifiers()) && !Modifier.isPublic(each.getModifiers())));
        classes.add(WokenDrive.class);
        Check.holds("at most twelve classes", classes.size() <= 12);
        for (Class<?> each : classes) {
            long fields = Arrays.stream(each.getDeclaredFields()).filter(field ->
                    !Modifier.isStatic(field.getModifiers())).count();
            Check.holds(each + " has at most twenty fields", fields <= 20);
            for (Method method : each.getDeclaredMethods()) {
                Check.holds(method + " takes at most seven parameters", method.getParameterCount() <= 7);
            }
        }
    }

    /** LANGUAGE.md, rule 11: "Methods stay short (some sixty lines)": methods of WokenDrive and of those inside it. */
    static void promiseMethodsAreShort() {
        for (String indent : List.of(" ".repeat(4), " ".repeat(8))) {
            shortBlocks(sourceText().split("\n"), indent);
        }
    }

    /** A class is a long block, too; of all that begins so far to the right, only it begins without a bracket. */
    private static void shortBlocks(String[] lines, String indent) {
        int start = 0;
        for (int line = 0; line < lines.length; line++) {
            if (lines[line].equals(indent + "}")) {
                Check.holds("lines " + (start + 1) + " to " + (line + 1) + " are a short method",
                        line - start < 60 || !lines[start].contains("("));
            } else if (lines[line].startsWith(indent) && lines[line].charAt(indent.length()) != ' ') {
                start = line;
            }
        }
    }

    /** LANGUAGE.md, rule 3: the file has signs of ASCII alone, and no tabs. */
    static void promiseSourceHasPlainSigns() {
        String text = sourceText();
        for (int place = 0; place < text.length(); place++) {
            char sign = text.charAt(place);
            Check.holds("sign " + (int) sign + " at " + place, sign == '\n' || sign >= ' ' && sign <= '~');
        }
    }

    /** LANGUAGE.md, rule 6: "throw new E() or throw new E("a written text")", and E one that the document names. */
    static void promiseThrowsAreThoseOfTheDocument() {
        Matcher made = Pattern.compile("\\bthrow\\b([^;]*);").matcher(codeWithoutComments());
        Set<String> thrown = new TreeSet<>();
        while (made.find()) {
            Matcher text = Pattern.compile(" new (\\w+)\\((\"[^\"]*\")?\\)").matcher(made.group(1));
            Check.holds("a written text in" + made.group(1), text.matches());
            thrown.add(text.group(1));
        }
        Check.holds("thrown are " + thrown, thrown.equals(Set.of(ARGUMENT, STATE, INDEX)));
    }

    /**
     * LANGUAGE.md, rule 12: "keep it small"; all calls of a run share one room, so no call makes an object but the
     * exception that it throws: whatever is made, is made for a field, or by a constructor.
     */
    static void promiseCallsMakeNoObjects() {
        for (String line : codeWithoutComments().split("\n")) {
            String code = line.strip();
            Check.holds("made for a field: " + code, !Pattern.compile("\\bnew\\b").matcher(code).find()
                    || code.startsWith("throw new ") || code.startsWith("private final ") || code.startsWith("final ")
                    || code.equals("saved[place] = new Drive();"));
        }
    }

    private static String codeWithoutComments() {
        return sourceText().replaceAll("(?s)/\\*.*?\\*/", " ").replaceAll("//[^\n]*", " ");
    }

    private static String sourceText() {
        try {
            return Files.readString(Path.of(source));
        } catch (IOException e) {
            throw new UncheckedIOException(e);
        }
    }
}
