import java.lang.reflect.Constructor;
import java.lang.reflect.Field;
import java.lang.reflect.Method;
import java.lang.reflect.Modifier;
import java.nio.file.Files;
import java.nio.file.Path;
import java.util.Set;
import java.util.TreeSet;
import java.util.regex.Matcher;
import java.util.regex.Pattern;

/** The document's face and no other member; what LANGUAGE.md rules out does not stand in the source. */
public final class FaceTests {
    private static final String FACE = """
            public int feed(int)
            public int end(int)
            public int text()
            public int fault()
            public int rule(int)
            public int man(int,int)
            public int rota(int)
            public int deed(int,int)
            public int alter(int,int,int)
            public int move(int,int,int)
            public int shift(int,int)
            public int cloud(int,boolean)
            public int paint(int)
            public int want(int,int)
            public int drop(int)
            public int shows(int)
            public int lost(int)
            public int worst(int)
            public int done(int)
            public int lean(int,int,int)
            public int mark(int)
            public int give(int)
            public int swap(int)
            public int sole(int)
            public long mean(int,int)
            public long luck(int,int,int)
            public int see(int,int)
            public int forget(int)
            public int leans(int)
            public int kinds(int)
            public int ask(int,int)
            public int drift(int,int,int)
            public int keep(int)
            public int back(int)
            public int sheet(int,int,int)
            public int lay(int,int,int)
            public int read(int,int,int,int)
            public int torn()
            public int count(int)
            """;
    private static final String[] RULED_OUT = {
        "\\bthrow\\b", "\\bthrows\\b", "\\btry\\b", "\\bcatch\\b", "\\bsynchronized\\b", "\\bassert\\b",
        "\\bimport\\b", "\\bpackage\\b", "->", "::", "Exact\\b", "\\bObject\\b", "\\bSystem\\.(?!arraycopy)",
        "\\bwhile\\s*\\(true\\)", "for\\s*\\(\\s*;", "\\bstatic\\s*\\{", "\\bnative\\b", "\\bprotected\\b"};

    private static int wrong = 0;

    private static void check(boolean is, String what) {
        if (!is) {
            wrong++;
            System.out.println(what);
        }
    }

    private static String signature(Method m) {
        StringBuilder s = new StringBuilder("public " + m.getReturnType() + " " + m.getName() + "(");
        for (int i = 0; i < m.getParameterCount(); i++) {
            s.append(i == 0 ? "" : ",").append(m.getParameterTypes()[i]);
        }
        return s.append(")").toString();
    }

    private static void methods() {
        Set<String> due = new TreeSet<>(FACE.lines().map(String::strip).toList());
        Set<String> names = new TreeSet<>();
        for (Method m : SunPointer.class.getDeclaredMethods()) {
            if (m.isSynthetic()) {
                continue;
            }
            if (Modifier.isPublic(m.getModifiers())) {
                check(due.remove(signature(m)), "not of the face: " + m);
                check(!Modifier.isStatic(m.getModifiers()), "static: " + m);
                names.add(m.getName());
            } else {
                check(Modifier.isPrivate(m.getModifiers()), "neither public nor private: " + m);
            }
            check(m.getParameterCount() <= 7, "too many parameters: " + m);
        }
        check(due.isEmpty(), "missing: " + due);
        for (Class<?> inside : SunPointer.class.getDeclaredClasses()) {
            check(Modifier.isStatic(inside.getModifiers()), "not static: " + inside);
            for (Method m : inside.getDeclaredMethods()) {
                check(!names.contains(m.getName()), "bears a public name: " + m);
            }
        }
        for (Method m : SunPointer.class.getDeclaredMethods()) {
            check(Modifier.isPublic(m.getModifiers()) || !names.contains(m.getName()), "bears a public name: " + m);
        }
    }

    private static void fieldsAndConstructor() {
        Set<String> due = new TreeSet<>(Set.of("BAD", "STATE", "FULL", "NONE"));
        for (Field f : SunPointer.class.getDeclaredFields()) {
            if (Modifier.isPublic(f.getModifiers())) {
                check(due.remove(f.getName()), "not of the face: " + f);
            } else {
                check(Modifier.isPrivate(f.getModifiers()), "neither public nor private: " + f);
            }
            check(!Modifier.isStatic(f.getModifiers()) || Modifier.isFinal(f.getModifiers()), "static state: " + f);
        }
        check(due.isEmpty(), "missing: " + due);
        Constructor<?>[] all = SunPointer.class.getDeclaredConstructors();
        check(all.length == 1 && all[0].getParameterCount() == 0 && Modifier.isPublic(all[0].getModifiers()),
                "not one public constructor");
        int modifiers = SunPointer.class.getModifiers();
        check(Modifier.isPublic(modifiers) && Modifier.isFinal(modifiers), "the class is not public and final");
        check(SunPointer.class.getDeclaredClasses().length <= 11, "too many classes");
    }

    private static void source() throws Exception {
        String all = Files.readString(Path.of("src/main/java/SunPointer.java"));
        String code = all.replaceAll("(?s)/\\*.*?\\*/", "").replaceAll("//[^\n]*", "");
        for (String pattern : RULED_OUT) {
            Matcher m = Pattern.compile(pattern).matcher(code);
            check(!m.find(), "ruled out: " + pattern);
        }
        check(all.chars().allMatch(c -> c == '\n' || c >= 32 && c < 127), "a sign that is not plain");
    }

    public static void main(String[] args) throws Exception {
        methods();
        fieldsAndConstructor();
        source();
        System.out.println(wrong == 0 ? "the face and the source are as due" : wrong + " faults");
        if (wrong != 0) {
            System.exit(1);
        }
    }
}
