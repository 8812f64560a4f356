import java.lang.reflect.Constructor;
import java.lang.reflect.Field;
import java.lang.reflect.Member;
import java.lang.reflect.Method;
import java.lang.reflect.Modifier;
import java.nio.file.Files;
import java.nio.file.Path;
import java.util.ArrayList;
import java.util.Arrays;
import java.util.List;
import java.util.Set;
import java.util.TreeSet;
import java.util.regex.Matcher;
import java.util.regex.Pattern;

/** What of LANGUAGE.md can be seen in the source and in the compiled class. */
public final class LanguageTest {
    private static final String[] FACE = {
        "int roots(int)", "int lantern(int)", "int bright(int)", "int now(int)", "int walker(int)", "int of(int,int)",
        "int set(int,int,int)", "int swap(int,int)", "int turn(int,int)", "int as(int,int)", "int steps(int)",
        "int on(int,int,int)", "int falls(int)", "int trips(int)", "int hears(int)", "int carry(int)", "int order(int)",
        "int kind(int,int)", "int least(int,int)", "int clear(int)", "int nerve(int,int)", "int worst(int)",
        "int feed(int,int)", "int wipe()", "int night()", "int sheet(int,int,int)", "long write(int,int,long)",
        "int copy(int,int,int,int,int)", "int lays(int)", "int book(int,int)", "int read(int,int)", "int image()",
        "int undo()", "int tear()", "int count(int)", "int status(int)"};
    private static final String[] BANNED = {
        "\\bthrow\\b", "\\btry\\b", "\\bcatch\\b", "\\bsynchronized\\b", "\\bassert\\b", "->", "::", "\\bimport\\b",
        "\\bpackage\\b", "\\bObject\\b", "Exact\\b", "\\bstatic\\s*\\{", "\\bThread\\b", "\\bnanoTime\\b", "\\bvar\\b"};

    private static int wrong = 0;

    private static void check(String what, boolean holds) {
        if (!holds) {
            wrong++;
            System.out.println("not so: " + what);
        }
    }

    public static void main(String[] args) throws Exception {
        Set<String> publicNames = face();
        classes(publicNames);
        source();
        System.out.println(wrong == 0 ? "the language is kept to" : wrong + " rules are not kept to");
        if (wrong != 0) {
            System.exit(1);
        }
    }

    private static String signature(Method m) {
        List<String> types = new ArrayList<>();
        for (Class<?> type : m.getParameterTypes()) {
            types.add(type.getName());
        }
        return m.getReturnType().getName() + " " + m.getName() + "(" + String.join(",", types) + ")";
    }

    private static Set<String> face() {
        Class<?> c = OneLantern.class;
        check("the class is public and final", Modifier.isPublic(c.getModifiers()) && Modifier.isFinal(c.getModifiers()));
        Set<String> got = new TreeSet<>();
        Set<String> names = new TreeSet<>();
        List<Member> members = new ArrayList<>();
        for (Method m : c.getDeclaredMethods()) {
            if (Modifier.isPublic(m.getModifiers())) {
                got.add(signature(m));
                names.add(m.getName());
                check(m + " is no static one", !Modifier.isStatic(m.getModifiers()));
            } else {
                members.add(m);
            }
        }
        members.addAll(Arrays.asList(c.getDeclaredFields()));
        for (Member m : members) {
            check(m + " is private", Modifier.isPrivate(m.getModifiers()));
        }
        check("the face is the document's: " + got, got.equals(new TreeSet<>(Arrays.asList(FACE))));
        Constructor<?>[] made = c.getDeclaredConstructors();
        check("one public constructor without arguments", made.length == 1 && Modifier.isPublic(made[0].getModifiers()) && made[0].getParameterCount() == 0);
        return names;
    }

    private static void classes(Set<String> publicNames) {
        List<Class<?>> all = new ArrayList<>(List.of(OneLantern.class));
        all.addAll(Arrays.asList(OneLantern.class.getDeclaredClasses()));
        check("at most twelve classes", all.size() <= 12);
        for (Class<?> c : all) {
            int fields = 0;
            for (Field f : c.getDeclaredFields()) {
                boolean isStatic = Modifier.isStatic(f.getModifiers());
                check(f + ": static means final", !isStatic || Modifier.isFinal(f.getModifiers()));
                fields += isStatic ? 0 : 1;
            }
            check(c + " has at most twenty fields", fields <= 20);
            for (Method m : c.getDeclaredMethods()) {
                check(m + " takes at most seven", m.getParameterCount() <= 7);
                check(m + " has no public name", Modifier.isPublic(m.getModifiers()) || !publicNames.contains(m.getName()));
            }
            for (Constructor<?> made : c.getDeclaredConstructors()) {
                check(made + " is handed nothing of an object that is being made", made.getParameterCount() == 0);
            }
            check(c + " is static", c == OneLantern.class || Modifier.isStatic(c.getModifiers()));
        }
    }

    private static void source() throws Exception {
        String text = Files.readString(Path.of("src/main/java/OneLantern.java"));
        check("signs 1 to 127 alone", text.chars().allMatch(c -> c > 0 && c < 128));
        String code = text.replaceAll("(?s)/\\*.*?\\*/", "").replaceAll("//[^\n]*", "").replaceAll("\"[^\"\n]*\"", "\"\"");
        for (String banned : BANNED) {
            Matcher m = Pattern.compile(banned).matcher(code);
            check("no " + banned, !m.find());
        }
        int lines = 0;
        String name = "";
        for (String line : text.split("\n")) {
            Matcher head = Pattern.compile("^ +(?:public|private)[^=;]*?(\\w+)\\([^;]*\\{$").matcher(line);
            lines = head.find() ? 0 : lines + 1;
            name = lines == 0 ? head.group(1) : name;
            check("at most sixty lines in " + name, lines != 61);
        }
    }
}
