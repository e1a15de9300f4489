import java.lang.reflect.InvocationTargetException;
import java.lang.reflect.Method;
import java.util.Arrays;
import java.util.Comparator;

/** Runs every method without parameters of the test classes; ends with exit code 1 if one fails. */
public final class AllTests {
    private static final Class<?>[] TEST_CLASSES = {
        FormTests.class, OrderTests.class, ControllerTests.class, ValueTests.class, WhatIfTests.class,
        CommandTests.class, UndoAndDigestTests.class, OrderEdgeTests.class, ControllerEdgeTests.class,
        WorkEdgeTests.class, ValueEdgeTests.class, WhatIfEdgeTests.class, CommandEdgeTests.class,
        UndoEdgeTests.class, RefusalTests.class, WhatItIsTests.class, PlainDriveTests.class, ReadmeTests.class,
    };

    private AllTests() {
    }

    public static void main(String[] args) throws IllegalAccessException {
        FormTests.source = args.length > 0 ? args[0] : "src/main/java/WokenDrive.java";
        ReadmeTests.readme = args.length > 1 ? args[1] : "README.md";
        int passed = 0;
        int failed = 0;
        for (Class<?> tests : TEST_CLASSES) {
            Method[] methods = tests.getDeclaredMethods();
            Arrays.sort(methods, Comparator.comparing(Method::getName));
            for (Method method : methods) {
                if (method.getParameterCount() == 0 && method.getName().startsWith("promise")) {
                    if (passes(tests, method)) {
                        passed++;
                    } else {
                        failed++;
                    }
                }
            }
        }
        System.out.println(passed + " passed, " + failed + " failed");
        if (failed != 0 || passed == 0) {
            System.exit(1);
        }
    }

    private static boolean passes(Class<?> tests, Method test) throws IllegalAccessException {
        try {
            test.invoke(null);
            return true;
        } catch (InvocationTargetException e) {
            System.out.println("FAILED " + tests.getName() + "." + test.getName() + ": " + e.getCause());
            return false;
        }
    }
}
