import java.io.IOException;
import java.lang.reflect.Constructor;
import java.lang.reflect.Field;
import java.lang.reflect.Method;
import java.lang.reflect.Modifier;
import java.nio.file.Files;
import java.nio.file.Path;
import java.util.Set;
import java.util.TreeSet;
import java.util.regex.Matcher;
import java.util.regex.Pattern;

/** The face of the class, and those rules of LANGUAGE.md that can be seen in its text. The argument: the class's file. */
public final class LanguageTest {
    private static final String FACE = "int status(); long top(); long bottom(); boolean tray(int,int,int); "
            + "boolean write(int,int,long); long read(int,int); boolean pour(int,int,int,int,int); "
            + "int feed(int,int,int,int,int); int yard(int); int days(int); int fault(int); int many(int); "
            + "int rick(int,int); int layer(int,int); int side(int,int); int dog(int,int); int boy(int,int); "
            + "int netted(); int pay(); boolean share(); int copyLayers(int,int); int take(int); int hour(); "
            + "int last(int); boolean net(int); boolean gap(int); boolean move(int,int); boolean send(int,int); "
            + "boolean lean(int,int); int rest(); int week(int); int toSide(int,int); int run(int,boolean,int); "
            + "int whole(int,int,int); int bestNets(int,int); int netSet(); int bestPlaces(int,int); "
            + "int placeAt(int); int bestOrder(int); int orderAt(int); int slowly(int); int dearest(int,int); "
            + "int proudest(); int tired(); int later(int,int); int backTo(int,int); long eaten(int,int); "
            + "int capsPay(int); int cap(int); int tells(int,int,int,int); int live(int); int lived(int); "
            + "boolean mean(int,int); int mark(); int back()";
    private static int wrong = 0;

    private static void check(boolean holds, String what) {
        if (!holds) {
            System.out.println("not so: " + what);
            wrong++;
        }
    }

    private static void face() {
        Set<String> got = new TreeSet<>();
        Set<String> names = new TreeSet<>();
        for (Method m : LastLayer.class.getDeclaredMethods()) {
            if (!Modifier.isPrivate(m.getModifiers())) {
                StringBuilder one = new StringBuilder(m.getReturnType() + " " + m.getName() + "(");
                for (Class<?> type : m.getParameterTypes()) {
                    one.append(one.charAt(one.length() - 1) == '(' ? "" : ",").append(type);
                }
                got.add(one.append(")").toString());
                names.add(m.getName());
            }
        }
        check(got.equals(new TreeSet<>(Set.of(FACE.split("; ")))), "the methods are those of the document: " + got);
        for (Method m : LastLayer.class.getDeclaredMethods()) {
            check(Modifier.isPublic(m.getModifiers()) || !names.contains(m.getName()), m + " has a public one's name");
        }
        for (Field f : LastLayer.class.getDeclaredFields()) {
            boolean isNone = f.getName().equals("NONE") && Modifier.isPublic(f.getModifiers());
            check(isNone || Modifier.isPrivate(f.getModifiers()), f + " is private");
        }
        Constructor<?>[] constructors = LastLayer.class.getDeclaredConstructors();
        check(constructors.length == 1 && constructors[0].getParameterCount() == 0, "one constructor");
        check(Modifier.isFinal(LastLayer.class.getModifiers()), "the class is final");
        check(LastLayer.class.getDeclaredClasses().length < 13, "some twelve classes");
        for (Class<?> inside : LastLayer.class.getDeclaredClasses()) {
            check(Modifier.isStatic(inside.getModifiers()), inside + " is static");
            int fields = 0;
            for (Field f : inside.getDeclaredFields()) {
                fields += Modifier.isStatic(f.getModifiers()) ? 0 : 1;
            }
            check(fields <= 20, inside + " has some twenty fields");
        }
    }

    private static String withoutRemarks(String text) {
        return text.replaceAll("(?s)/\\*.*?\\*/", "").replaceAll("//[^\n]*", "")
                .replaceAll("\"[^\"\n]*\"", "\"\"").replaceAll("'.'|'\\\\n'", "''");
    }

    private static void words(String code) {
        String[] banned = {"\\bthrow\\b", "\\bthrows\\b", "\\btry\\b", "\\bcatch\\b", "\\bsynchronized\\b",
            "\\bassert\\b", "\\bimport\\b", "\\bpackage\\b", "->", "::", "\\bequals\\b", "\\bhashCode\\b",
            "\\btoString\\b", "\\bobject\\b", "\\bprotected\\b", "\\bnative\\b", "\\bvolatile\\b", "Exact\\b",
            "\\+ *\"", "\" *\\+", "\\bstatic *\\{", "\\bdouble\\b", "\\bfloat\\b", "\\bThread\\b"};
        for (String word : banned) {
            Matcher found = Pattern.compile(word).matcher(code);
            check(!found.find(), "the class does without " + word);
        }
        Matcher statics = Pattern.compile("\\bstatic (?!final |class )[^\n]*;").matcher(code);
        check(!statics.find(), "static fields are final");
        for (String line : code.split("\n")) {
            boolean made = line.contains("new ") && !line.matches(".*final .* = new .*|.*\\[i\\] = new \\w+\\(\\);");
            check(!made, "objects are made in constructors alone: " + line.trim());
        }
        Matcher library = Pattern.compile("\\b(Math|Integer|Long|System|Arrays)\\.(\\w+)").matcher(code);
        while (library.find()) {
            check(Set.of("min", "max", "abs", "bitCount", "arraycopy").contains(library.group(2)), library.group());
        }
    }

    private static void lengths(String code) {
        String[] lines = code.split("\n");
        int from = -1;
        String end = "";
        for (int i = 0; i < lines.length; i++) {
            if (from < 0 && lines[i].matches(" {4,8}\\w[^=;]*\\) \\{")) {
                from = i;
                end = lines[i].replaceAll("\\S.*", "") + "}";
                check(lines[i].split(",").length <= 7, "seven parameters at most: " + lines[i].trim());
            } else if (from >= 0 && lines[i].equals(end)) {
                check(i - from < 60, "some sixty lines at most: " + lines[from].trim());
                from = -1;
            }
        }
    }

    public static void main(String[] args) throws IOException {
        face();
        if (args.length > 0) {
            String code = withoutRemarks(Files.readString(Path.of(args[0])));
            words(code);
            lengths(code);
        } else {
            check(false, "the class's file is told");
        }
        System.out.println(wrong == 0 ? "the rules are kept" : wrong + " rules are not kept");
        System.exit(wrong == 0 ? 0 : 1);
    }
}
