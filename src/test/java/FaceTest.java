import java.io.IOException;
import java.lang.reflect.Constructor;
import java.lang.reflect.Executable;
import java.lang.reflect.Field;
import java.lang.reflect.Method;
import java.lang.reflect.Modifier;
import java.nio.file.Files;
import java.nio.file.Path;
import java.util.Set;
import java.util.TreeSet;

/** The face is the document's, and the rules of LANGUAGE.md that can be looked up hold. */
public final class FaceTest {
    private static final Due DUE = new Due("FaceTest");
    private static final Class<?> FACE = SalvageOfDays.class;
    private static final String[] METHODS = {
        "int count 1", "int cask 3", "int lies 2", "int sky 2", "int feed 6", "int text 0",
        "int force 1", "int asks 3", "int diver 2", "int put 2", "int told 2", "int dives 3",
        "int dive 2", "int open 1", "int hour 0", "int bay 1", "int run 2", "int stills 0",
        "int row 3", "int salvage 2", "int which 2", "int cargo 2", "int last 3", "int best 1",
        "long share 2", "int judge 2", "int opened 2", "int skies 3", "int whose 1", "int laws 2",
        "int film 3", "int kinds 3", "int breaths 3", "int drawn 2", "long odds 4", "int image 0",
        "int back 0", "int sheet 3", "int cell 3", "int copy 5", "int diversBy 4", "int taken 2"
    };

    public static void main(String[] args) throws IOException {
        constants();
        methods();
        nothingElse();
        classesInside();
        source();
        madeAtOnce();
        DUE.end();
    }

    private static void constants() {
        DUE.is("NONE", SalvageOfDays.NONE, -1);
        DUE.is("BAD", SalvageOfDays.BAD, -2);
        DUE.is("STATE", SalvageOfDays.STATE, -3);
        DUE.is("FULL", SalvageOfDays.FULL, -4);
        DUE.is("NO", SalvageOfDays.NO, -4611686018427387904L);
        Set<String> names = new TreeSet<>();
        for (Field field : FACE.getFields()) {
            names.add(field.getType() + " " + field.getName());
        }
        DUE.isTrue("constants: " + names,
            names.equals(Set.of("int NONE", "int BAD", "int STATE", "int FULL", "long NO")));
    }

    private static void methods() {
        Set<String> found = new TreeSet<>();
        for (Method method : FACE.getDeclaredMethods()) {
            if (Modifier.isPublic(method.getModifiers())) {
                DUE.isTrue(method + " is not static", !Modifier.isStatic(method.getModifiers()));
                found.add(method.getReturnType() + " " + method.getName() + " "
                    + method.getParameterCount());
                for (Class<?> type : method.getParameterTypes()) {
                    DUE.isTrue(method + " takes ints", type == int.class);
                }
            }
        }
        DUE.isTrue("methods: " + found, found.equals(new TreeSet<>(Set.of(METHODS))));
    }

    private static void nothingElse() {
        int modifiers = FACE.getModifiers();
        DUE.isTrue("public and final", Modifier.isPublic(modifiers) && Modifier.isFinal(modifiers));
        DUE.is("constructors", FACE.getDeclaredConstructors().length, 1);
        for (Constructor<?> constructor : FACE.getConstructors()) {
            DUE.is("the constructor takes", constructor.getParameterCount(), 0);
        }
        for (Field field : FACE.getDeclaredFields()) {
            int its = field.getModifiers();
            DUE.isTrue(field + " is private", Modifier.isPublic(its) || Modifier.isPrivate(its));
        }
        for (Method method : FACE.getDeclaredMethods()) {
            int its = method.getModifiers();
            DUE.isTrue(method + " is private", method.isSynthetic()
                || Modifier.isPublic(its) || Modifier.isPrivate(its));
        }
        looksRight(FACE);
    }

    private static void classesInside() {
        DUE.isTrue("some twelve classes", FACE.getDeclaredClasses().length < 12);
        for (Class<?> inside : FACE.getDeclaredClasses()) {
            DUE.isTrue(inside + " is static", Modifier.isStatic(inside.getModifiers()));
            DUE.isTrue(inside + " is private", Modifier.isPrivate(inside.getModifiers()));
            looksRight(inside);
        }
    }

    /** Rules 1, 5 and 11: names, static fields, parameters, fields. */
    private static void looksRight(Class<?> type) {
        Set<String> names = new TreeSet<>();
        for (String method : METHODS) {
            names.add(method.split(" ")[1]);
        }
        for (Method method : type.getDeclaredMethods()) {
            boolean isFace = Modifier.isPublic(method.getModifiers());
            DUE.isTrue(method + " has its own name", isFace || !names.contains(method.getName()));
            takesFew(method);
        }
        for (Constructor<?> constructor : type.getDeclaredConstructors()) {
            takesFew(constructor);
        }
        int fields = 0;
        for (Field field : type.getDeclaredFields()) {
            if (Modifier.isStatic(field.getModifiers())) {
                DUE.isTrue(field + " is final", Modifier.isFinal(field.getModifiers()));
            } else {
                fields++;
            }
        }
        DUE.isTrue(type + " has some twenty fields", fields <= 20);
    }

    private static void takesFew(Executable call) {
        DUE.isTrue(call + " takes at most seven", call.getParameterCount() <= 7);
    }

    private static void source() throws IOException {
        String source = Files.readString(Path.of("src/main/java/SalvageOfDays.java"));
        String[] never = {
            "try {", "catch", "throw ", "finally", "synchronized", "assert ", "->", "::", "instanceof",
            "package ", "double", "float", "String.format", "Thread", "while (", "Object"
        };
        for (String word : never) {
            DUE.isTrue("no " + word, !source.contains(word));
        }
        int lines = 0;
        for (String line : source.split("\n")) {
            DUE.isTrue("import: " + line,
                !line.startsWith("import") || line.equals("import java.util.Arrays;"));
            DUE.isTrue("signs of " + line, line.chars().allMatch(c -> c >= 32 && c < 127));
            DUE.isTrue("at most 100 signs: " + line, line.length() <= 100);
            lines = line.isBlank() ? 0 : lines + 1;
            DUE.isTrue("some sixty lines at a stretch", lines <= 60);
        }
    }

    /** What a call would make is counted; so all is made in fields and in the constructor. */
    private static void madeAtOnce() throws IOException {
        boolean isConstructor = false;
        for (String line : Files.readAllLines(Path.of("src/main/java/SalvageOfDays.java"))) {
            isConstructor |= line.equals("    public SalvageOfDays() {");
            isConstructor &= !line.equals("    }");
            boolean isField = line.matches(" +(private )?final .+ = new .+;");
            boolean makes = line.matches(".*\\bnew\\b.*") && !line.matches(" *(//|\\*|/\\*).*")
                || line.contains("Arrays.copyOf") || line.contains(".clone()");
            DUE.isTrue("made at once: " + line, !makes || isField || isConstructor);
        }
    }
}
