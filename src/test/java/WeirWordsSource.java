import java.lang.reflect.Constructor;
import java.lang.reflect.Field;
import java.lang.reflect.Member;
import java.lang.reflect.Method;
import java.lang.reflect.Modifier;
import java.nio.file.Files;
import java.nio.file.Path;
import java.util.ArrayList;
import java.util.Arrays;
import java.util.List;
import java.util.Set;
import java.util.TreeSet;
import java.util.regex.Matcher;
import java.util.regex.Pattern;

/** The face of the class, and the rules of LANGUAGE.md that a look at the source can tell. */
public final class WeirWordsSource {
    private static final String FACE = "row3 set3 copy5 drop1 feed1 river0 fault0 minutes1 say3 speed2 rain1 undo0 word2 cell2"
        + " ahead3 quarrel1 over1 kept0 calm2 swift2 stir3 share2 fits5 chance4 drawn3 image1 restore1 kind1 as2 ask2"
        + " trace1 count1 status0";
    private static int failed = 0;
    private static int passed = 0;

    private static void check(boolean good, String what) {
        if (good) {
            passed++;
        } else {
            failed++;
            System.out.println("not so: " + what);
        }
    }

    private static boolean isHidden(Member m) {
        return Modifier.isPrivate(m.getModifiers()) || m.isSynthetic();
    }

    public static void main(String[] args) throws Exception {
        face();
        String source = Files.readString(Path.of(args[0]));
        words(source.replaceAll("//[^\n]*", "").replaceAll("(?s)/\\*.*?\\*/", ""));
        System.out.println(passed + " passed, " + failed + " failed");
        if (failed != 0) System.exit(1);
    }

    private static void face() {
        Class<?> face = WeirWords.class;
        check(Modifier.isPublic(face.getModifiers()) && Modifier.isFinal(face.getModifiers()), "public final");
        Set<String> open = new TreeSet<>();
        List<Class<?>> all = new ArrayList<>(List.of(face));
        all.addAll(Arrays.asList(face.getDeclaredClasses()));
        check(all.size() <= 12, "twelve classes at most");
        for (Method m : face.getDeclaredMethods()) {
            if (isHidden(m)) continue;
            check(Modifier.isPublic(m.getModifiers()) && !Modifier.isStatic(m.getModifiers()), "public: " + m);
            check(m.getReturnType() == int.class, "int: " + m);
            for (Class<?> type : m.getParameterTypes()) check(type == int.class, "of ints: " + m);
            open.add(m.getName() + m.getParameterCount());
        }
        check(open.equals(new TreeSet<>(Arrays.asList(FACE.split(" ")))), "the methods of the document: " + open);
        Set<String> constants = new TreeSet<>();
        for (Field f : face.getDeclaredFields()) {
            if (!isHidden(f)) constants.add(f.getName());
        }
        check(constants.equals(Set.of("NONE", "BAD", "STATE", "FULL")), "the constants of the document: " + constants);
        Constructor<?>[] made = face.getDeclaredConstructors();
        check(made.length == 1 && Modifier.isPublic(made[0].getModifiers()) && made[0].getParameterCount() == 0, "one constructor");
        Set<String> names = new TreeSet<>();
        for (String name : FACE.split(" ")) names.add(name.replaceAll("[0-9]", ""));
        for (Class<?> c : all) {
            check(c == face || Modifier.isStatic(c.getModifiers()), "static: " + c);
            check(c == face || !Modifier.isPublic(c.getModifiers()) && !Modifier.isProtected(c.getModifiers()), "not open: " + c);
            int fields = 0;
            for (Field f : c.getDeclaredFields()) {
                check(!Modifier.isStatic(f.getModifiers()) || Modifier.isFinal(f.getModifiers()), "final: " + f);
                if (!Modifier.isStatic(f.getModifiers())) fields++;
            }
            check(fields <= 20, "twenty fields at most: " + c);
            for (Method m : c.getDeclaredMethods()) {
                check(m.getParameterCount() <= 7, "seven parameters at most: " + m);
                check(c == face && !isHidden(m) || !names.contains(m.getName()), "no name of the face: " + m);
            }
        }
    }

    private static void words(String code) {
        for (String word : List.of("throw", "throws", "try", "catch", "synchronized", "assert", "static \\{", "instanceof",
                "Thread", "System\\.(?!arraycopy)", "Random", "nanoTime", "\\w+Exact", "equals", "hashCode", "toString",
                "->", "::", "package", "goto", "MAX_VALUE", "MIN_VALUE")) {
            Matcher m = Pattern.compile("(?<![\\w])" + word + "(?![\\w])").matcher(code);
            check(!m.find(), "no '" + word + "' in the source");
        }
        Matcher imports = Pattern.compile("import ([\\w.]+);").matcher(code);
        while (imports.find()) {
            check(Set.of("java.util.Arrays").contains(imports.group(1)), "import " + imports.group(1));
        }
    }
}
