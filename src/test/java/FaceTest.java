import java.io.IOException;
import java.lang.reflect.Constructor;
import java.lang.reflect.Field;
import java.lang.reflect.Method;
import java.lang.reflect.Modifier;
import java.nio.file.Files;
import java.nio.file.Path;
import java.util.ArrayList;
import java.util.List;
import java.util.Set;
import java.util.TreeSet;
import java.util.regex.Matcher;
import java.util.regex.Pattern;

/** The face is the document's and no more, and the source keeps to what can be looked up of LANGUAGE.md. */
public final class FaceTest {
    private static final String[] FACE = {
        "int letter(int)", "int kingdom()", "int minister(int,int)", "int cell(int,int)", "int pushing(int)",
        "int heaps(int,int)", "int kerbs(int)", "int stands(int)", "int goal(int)", "int weighs(int)",
        "int steps(int)", "int turn(int,int,int)", "int goes(int)", "int then(int,int)", "int fallsThen(int,int)",
        "int comes(int)", "int down(int)", "int stuck()", "int climb(int,int)", "int push()", "int take()",
        "int flat()", "int mostWeight()", "int start(int)", "int bestKind(int,int)", "int far(int)", "int easy(int)",
        "int two(int,int,int)", "long plank(int,int,int,int)", "long mean(int)", "int whoPushed(int)", "int row(int)",
        "int judge()", "int clear()", "int lots(int,int,int)", "int image()", "int on()", "int count(int)"};
    private static final String FORBIDDEN =
            "\\b(throw|throws|try|catch|synchronized|assert|import|package|double|float|var|protected)\\b|->|::";
    private static int wrong;

    private static void must(boolean holds, String what) {
        if (!holds) {
            wrong++;
            System.out.println("not so: " + what);
        }
    }

    private static String signature(Method method) {
        List<String> parameters = new ArrayList<>();
        for (Class<?> type : method.getParameterTypes()) {
            parameters.add(type.getName());
        }
        return method.getReturnType().getName() + " " + method.getName() + "(" + String.join(",", parameters) + ")";
    }

    private static void face() {
        Class<?> type = SovereignInBarrow.class;
        must(Modifier.isPublic(type.getModifiers()) && Modifier.isFinal(type.getModifiers()), "public and final");
        Set<String> open = new TreeSet<>();
        Set<String> names = new TreeSet<>();
        for (Method method : type.getDeclaredMethods()) {
            if (Modifier.isPublic(method.getModifiers())) {
                open.add(signature(method));
                names.add(method.getName());
            } else {
                must(Modifier.isPrivate(method.getModifiers()), method + " is private");
            }
        }
        must(open.equals(new TreeSet<>(List.of(FACE))), "the methods are those of the document: " + open);
        for (Field field : type.getDeclaredFields()) {
            must(Modifier.isPrivate(field.getModifiers()), field + " is private");
        }
        Constructor<?>[] constructors = type.getDeclaredConstructors();
        must(constructors.length == 1 && Modifier.isPublic(constructors[0].getModifiers())
                && constructors[0].getParameterCount() == 0, "one constructor, public and without parameters");
        noOtherBearsTheName(type, names);
        for (Class<?> inside : type.getDeclaredClasses()) {
            noOtherBearsTheName(inside, names);
            must(Modifier.isStatic(inside.getModifiers()), inside + " is static");
            must(!Modifier.isPublic(inside.getModifiers()), inside + " is not public");
        }
        must(type.getDeclaredClasses().length <= 12, "at most twelve classes");
    }

    private static void noOtherBearsTheName(Class<?> type, Set<String> names) {
        int fields = 0;
        for (Field field : type.getDeclaredFields()) {
            must(!Modifier.isStatic(field.getModifiers()) || Modifier.isFinal(field.getModifiers()), field + " is final");
            fields += Modifier.isStatic(field.getModifiers()) ? 0 : 1;
        }
        must(fields <= 20, type + " has twenty fields at most");
        for (Method method : type.getDeclaredMethods()) {
            must(method.getParameterCount() <= 7, method + " has seven parameters at most");
            must(Modifier.isPublic(method.getModifiers()) || !names.contains(method.getName()),
                    method + " has a name of its own");
        }
    }

    private static void source() throws IOException {
        String text = Files.readString(Path.of("src/main/java/SovereignInBarrow.java"));
        String code = text.replaceAll("(?s)/\\*.*?\\*/", "").replaceAll("//[^\n]*", "").replaceAll("\"[^\"\n]*\"", "\"\"");
        Matcher matcher = Pattern.compile(FORBIDDEN).matcher(code);
        while (matcher.find()) {
            must(false, "the source does without '" + matcher.group() + "'");
        }
        must(text.chars().allMatch(c -> c < 128), "signs below 128 alone");
    }

    public static void main(String[] args) throws IOException {
        face();
        source();
        System.out.println(wrong == 0 ? "the face is as told" : wrong + " faults");
        if (wrong != 0) {
            System.exit(1);
        }
    }
}
