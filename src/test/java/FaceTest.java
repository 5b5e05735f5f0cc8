import java.io.IOException;
import java.lang.reflect.Constructor;
import java.lang.reflect.Field;
import java.lang.reflect.Method;
import java.lang.reflect.Modifier;
import java.nio.file.Files;
import java.nio.file.Path;
import java.util.ArrayList;
import java.util.List;
import java.util.Set;
import java.util.TreeSet;
import java.util.regex.Matcher;
import java.util.regex.Pattern;
import java.util.stream.Collectors;
import java.util.stream.Stream;

/** The public face of the document, and those rules of LANGUAGE.md that can be seen from outside or in the source. */
public final class FaceTest {
    private static final String[] FACE = {
        "int lot(int,int,int,int,int)", "int days(int)", "boolean curve(int,int)", "int feed(long,long,long)",
        "int text()", "int roast(int,int)", "int roasted(int)", "int take(int,int)", "int blend()",
        "int bag(int,int) throws NoSuchElementException", "int part(int,int)", "boolean mark(int,int,int)",
        "boolean told(int,int)", "int order(int,int)", "int worth(int)", "boolean span(int,int,int)",
        "int best(int,int)", "int tenths(int)", "boolean send(int,int)", "boolean keeps(int,int)", "int stale(int)",
        "int found(int,int)", "int led(int,int)", "int count(int)",
    };
    private static final String[] NEVER = {
        "\\bfinally\\b", "\\bsynchronized\\b", "\\bassert\\b", "->", "::", "\\bExact\\b", "Exact\\(", "\\bcatch\\b",
        "\\bprotected\\b", "\\bHashMap\\b", "\\bRandom\\b", "\\bThread\\b", "currentTimeMillis", "nanoTime",
        "\\bSystem\\.(?!arraycopy)", "\\bMath\\.(?!abs\\(|max\\(|min\\(|floorDiv\\()",
        "\\bArrays\\.(?!fill\\()", "hashCode", "\\.equals\\(", "static \\{", "\\bdouble\\b", "\\bfloat\\b",
    };
    private static int wrong = 0;

    public static void main(String[] args) throws IOException {
        members();
        inside();
        source(Files.readString(Path.of("src/main/java/RoastHouse.java")));
        System.out.println("the face and the source: " + wrong + " faults");
        if (wrong != 0) {
            System.exit(1);
        }
    }

    private static void expect(String what, boolean holds) {
        if (!holds) {
            wrong++;
            System.out.println("not so: " + what);
        }
    }

    private static String list(Class<?>[] types) {
        return Stream.of(types).map(Class::getSimpleName).collect(Collectors.joining(","));
    }

    private static void members() {
        Class<RoastHouse> face = RoastHouse.class;
        expect("public and final", face.getModifiers() == (Modifier.PUBLIC | Modifier.FINAL));
        Set<String> open = new TreeSet<>();
        Set<String> closedNames = new TreeSet<>();
        for (Method m : face.getDeclaredMethods()) {
            String thrown = m.getExceptionTypes().length == 0 ? "" : " throws " + list(m.getExceptionTypes());
            if (Modifier.isPublic(m.getModifiers())) {
                expect(m.getName() + " is of the object", !Modifier.isStatic(m.getModifiers()));
                open.add(m.getReturnType().getSimpleName() + " " + m.getName() + "(" + list(m.getParameterTypes()) + ")" + thrown);
            } else {
                expect(m.getName() + " is private", Modifier.isPrivate(m.getModifiers()));
                closedNames.add(m.getName());
            }
        }
        expect("the methods of the document: " + open, open.equals(Set.of(FACE)));
        for (String call : FACE) {
            String name = call.substring(call.indexOf(' ') + 1, call.indexOf('('));
            expect("no private method is named " + name, !closedNames.contains(name));
        }
        Constructor<?>[] made = face.getDeclaredConstructors();
        expect("one public constructor without arguments", made.length == 1
                && Modifier.isPublic(made[0].getModifiers()) && made[0].getParameterCount() == 0);
        for (Field f : face.getDeclaredFields()) {
            boolean isNone = f.getName().equals("NONE") && f.getModifiers() == (Modifier.PUBLIC | Modifier.STATIC | Modifier.FINAL);
            expect(f.getName() + " is NONE or private", isNone || Modifier.isPrivate(f.getModifiers()));
        }
    }

    private static void inside() {
        List<Class<?>> all = new ArrayList<>(List.of(RoastHouse.class.getDeclaredClasses()));
        expect("at most 12 classes", all.size() + 1 <= 12);
        all.add(RoastHouse.class);
        for (Class<?> c : all) {
            expect(c + " is static", c == RoastHouse.class || Modifier.isStatic(c.getModifiers()));
            int fields = 0;
            for (Field f : c.getDeclaredFields()) {
                boolean isStatic = Modifier.isStatic(f.getModifiers());
                fields += isStatic ? 0 : 1;
                expect(c + "." + f.getName() + " is final", !isStatic || Modifier.isFinal(f.getModifiers()));
            }
            expect(c + " has at most 20 fields", fields <= 20);
            for (Method m : c.getDeclaredMethods()) {
                expect(c + "." + m.getName() + " has at most 7 parameters", m.getParameterCount() <= 7);
            }
        }
    }

    private static void source(String text) {
        String code = text.replaceAll("(?s)/\\*.*?\\*/", "").replaceAll("//[^\n]*", "");
        for (String never : NEVER) {
            expect("the source is without " + never, !Pattern.compile(never).matcher(code).find());
        }
        Matcher thrown = Pattern.compile("\\bthrow\\b[^;]*;").matcher(code);
        while (thrown.find()) {
            expect(thrown.group(), thrown.group().equals("throw new NoSuchElementException();"));
        }
        Matcher imported = Pattern.compile("import ([^;]*);").matcher(code);
        while (imported.find()) {
            expect(imported.group(), Set.of("java.util.Arrays", "java.util.NoSuchElementException").contains(imported.group(1)));
        }
        expect("no package", !code.contains("package "));
        // A method begins at a line with an open brace one step deeper than its class, and ends at the brace there.
        Matcher method = Pattern.compile("(?m)^( {4}| {8})(?! )[^\n;=]*\\([^\n]*\\{\n(?s:.*?)^\\1\\}").matcher(code);
        int methods = 0;
        while (method.find()) {
            methods++;
            expect("short: " + method.group().lines().findFirst().orElse(""), method.group().lines().count() <= 60);
        }
        expect("methods are found", methods > 80);
    }
}
