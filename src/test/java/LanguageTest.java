import java.lang.reflect.Array;
import java.lang.reflect.Field;
import java.lang.reflect.Method;
import java.lang.reflect.Modifier;
import java.nio.file.Files;
import java.nio.file.Path;
import java.util.Collections;
import java.util.IdentityHashMap;
import java.util.Set;
import java.util.TreeSet;
import java.util.regex.Matcher;
import java.util.regex.Pattern;

/** The face of the document, the rules of LANGUAGE.md that a test can see, and how much one object holds. */
public final class LanguageTest {
    private static final Set<String> FACE = new TreeSet<>(Set.of(
            "type(int)", "clear()", "book()", "flag(int,int)", "code(int,int)", "sorted(int)", "first(int)",
            "puts(int,int)", "takes(int)", "places(int)", "sends()", "answers(int)", "undo()",
            "message(int)", "hoist(int,int)", "thing(int,int)", "told(int,int,int)", "meanings(int,int)",
            "sees(int,int)", "forget()", "unseen()", "keep(int)", "back(int)", "count(int)"));
    private static final String[] FORBIDDEN = {
        "\\bthrow\\b", "\\bthrows\\b", "\\btry\\b", "\\bcatch\\b", "\\bsynchronized\\b", "\\bassert\\b", "\\bimport\\b",
        "\\bpackage\\b", "\\bprotected\\b", "->", "::", "Exact\\b", "\\bhashCode\\b", "\\btoString\\b",
        "\\bstatic\\s*\\{", "\\bthread\\b", "\\bRandom\\b", "\\bcurrentTimeMillis\\b", "\\bnanoTime\\b"};

    private int objects = 0;
    private int parts = 0;
    private final Set<Object> met = Collections.newSetFromMap(new IdentityHashMap<>());

    public static void main(String[] args) throws Exception {
        face();
        nested();
        source();
        room();
        Check.end();
    }

    private static void face() {
        Check.isTrue("public and final", Modifier.isPublic(FlagHoists.class.getModifiers())
                && Modifier.isFinal(FlagHoists.class.getModifiers()));
        Set<String> methods = new TreeSet<>();
        for (Method method : FlagHoists.class.getDeclaredMethods()) {
            if (Modifier.isPrivate(method.getModifiers())) {
                continue;
            }
            StringBuilder name = new StringBuilder(method.getName()).append('(');
            for (Class<?> type : method.getParameterTypes()) {
                name.append(name.charAt(name.length() - 1) == '(' ? "" : ",").append(type.getName());
            }
            methods.add(name.append(')').toString());
            Check.isTrue(method + " is public, no static, and answers an int",
                    Modifier.isPublic(method.getModifiers()) && !Modifier.isStatic(method.getModifiers())
                    && method.getReturnType() == int.class);
        }
        Check.isTrue("the methods are " + methods, methods.equals(FACE));
        Check.isTrue("one public constructor without numbers", FlagHoists.class.getDeclaredConstructors().length == 1
                && FlagHoists.class.getConstructors().length == 1
                && FlagHoists.class.getConstructors()[0].getParameterCount() == 0);
        Set<String> constants = new TreeSet<>();
        for (Field field : FlagHoists.class.getDeclaredFields()) {
            if (!Modifier.isPrivate(field.getModifiers())) {
                constants.add(field.getName());
            }
        }
        Check.isTrue("the constants are " + constants, constants.equals(Set.of("BAD", "STATE", "FULL", "NONE")));
        Check.due("BAD", -1, FlagHoists.BAD);
        Check.due("STATE", -2, FlagHoists.STATE);
        Check.due("FULL", -3, FlagHoists.FULL);
        Check.due("NONE", -9, FlagHoists.NONE);
    }

    private static void nested() {
        Set<String> names = new TreeSet<>();
        for (String method : FACE) {
            names.add(method.substring(0, method.indexOf('(')));
        }
        Class<?>[] classes = FlagHoists.class.getDeclaredClasses();
        Check.isTrue("at most twelve classes", classes.length + 1 <= 12);
        for (Class<?> inside : classes) {
            Check.isTrue(inside + " is static", Modifier.isStatic(inside.getModifiers()));
            Check.isTrue(inside + " is private or package-visible",
                    !Modifier.isPublic(inside.getModifiers()) && !Modifier.isProtected(inside.getModifiers()));
            Check.isTrue(inside + " has some twenty fields", inside.getDeclaredFields().length <= 22);
            for (Method method : inside.getDeclaredMethods()) {
                Check.isTrue(method + " bears a public method's name", !names.contains(method.getName()));
                Check.isTrue(method + " takes seven at most", method.getParameterCount() <= 7);
            }
            staticFieldsAreFinal(inside);
        }
        staticFieldsAreFinal(FlagHoists.class);
    }

    private static void staticFieldsAreFinal(Class<?> type) {
        for (Field field : type.getDeclaredFields()) {
            if (Modifier.isStatic(field.getModifiers())) {
                Check.isTrue(field + " is final", Modifier.isFinal(field.getModifiers()));
            }
        }
    }

    private static void source() throws Exception {
        String source = Files.readString(Path.of(System.getProperty("flaghoists.source",
                "src/main/java/FlagHoists.java")));
        for (int i = 0; i < source.length(); i++) {
            Check.isTrue("a sign beyond 127 at " + i, source.charAt(i) < 128);
        }
        String code = source.replaceAll("(?s)/\\*.*?\\*/", "").replaceAll("//[^\n]*", "");
        for (String forbidden : FORBIDDEN) {
            Matcher matcher = Pattern.compile(forbidden).matcher(code);
            Check.isTrue("the source has " + forbidden, !matcher.find());
        }
        int length = 0;
        for (String line : code.split("\n")) {
            length = line.matches("    (    )?\\}") ? 0 : length + 1;
            boolean head = line.matches("    (    )?(public|private|static|final|int|void|boolean).*\\{");
            length = head ? 0 : length;
            Check.isTrue("a method is longer than some sixty lines: " + line, length <= 60);
        }
    }

    /** One run's objects live in one room: an object is small, and no call makes more of it. */
    private static void room() throws Exception {
        FlagHoists x = new FlagHoists();
        LanguageTest fresh = new LanguageTest();
        fresh.measure(x);
        Check.isTrue("a new object is of " + fresh.objects + " objects", fresh.objects <= 100);
        Check.isTrue("a new object has " + fresh.parts + " fields and elements", fresh.parts <= 1000);
        Check.read(x, "p5;fa1 3;fb1 3;kaa;kab;kb;");
        Check.put(x, 0, 1, 2, 0, 1);
        x.sends();
        x.answers(0);
        x.undo();
        x.sees(0, 4);
        x.unseen();
        x.keep(0);
        x.back(0);
        x.count(4);
        LanguageTest used = new LanguageTest();
        used.measure(x);
        Check.due("objects, used", fresh.objects, used.objects);
        Check.due("fields and elements, used", fresh.parts, used.parts);
    }

    private void measure(Object object) throws Exception {
        if (object == null || !met.add(object)) {
            return;
        }
        objects++;
        Class<?> type = object.getClass();
        if (type.isArray()) {
            parts += Array.getLength(object);
            for (int i = 0; i < Array.getLength(object) && !type.getComponentType().isPrimitive(); i++) {
                measure(Array.get(object, i));
            }
            return;
        }
        for (Field field : type.getDeclaredFields()) {
            if (Modifier.isStatic(field.getModifiers())) {
                continue;
            }
            parts++;
            if (!field.getType().isPrimitive()) {
                field.setAccessible(true);
                measure(field.get(object));
            }
        }
    }
}
