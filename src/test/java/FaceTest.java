import java.io.IOException;
import java.lang.reflect.Member;
import java.lang.reflect.Method;
import java.lang.reflect.Modifier;
import java.nio.charset.StandardCharsets;
import java.nio.file.Files;
import java.nio.file.Path;
import java.util.Set;
import java.util.TreeSet;
import java.util.regex.Matcher;
import java.util.regex.Pattern;

/** The public face, and what of LANGUAGE.md a look at the text of the program can tell. */
public final class FaceTest {
    private static final String[] FACE = {
        "int about(int,int)", "int as(int,int)", "int barge(int)", "int bell(int)", "int best(int,int,int)",
        "int blank()", "int cell(int,int)", "int count(int)", "int days(int,int,int)", "long digest()",
        "int fault()", "int fits()", "int hour()", "int image()", "int letters(long)", "int mark(int,int)",
        "int newStair()", "int restore()", "int share(int)", "int shore()", "int take(int)", "int then(int)",
        "int thing(int,int,int)", "int tide(int)", "int uncovered(int)", "int whence(int,int,int)"};

    public static void main(String[] args) throws IOException {
        methods();
        others();
        words();
        Check.end();
    }

    private static boolean hidden(Member member) {
        return Modifier.isPrivate(member.getModifiers()) || member.isSynthetic();
    }

    private static void methods() {
        Set<String> found = new TreeSet<>();
        for (Method method : LowWater.class.getDeclaredMethods()) {
            if (!hidden(method)) {
                StringBuilder types = new StringBuilder();
                for (Class<?> type : method.getParameterTypes()) {
                    types.append(types.length() == 0 ? "" : ",").append(type.getName());
                }
                found.add(method.getReturnType().getName() + " " + method.getName() + "(" + types + ")");
                Check.due("face, " + method, method.getModifiers(), Modifier.PUBLIC);
            }
        }
        for (String method : FACE) {
            Check.due("face, " + method, found.remove(method) ? 1 : 0, 1);
        }
        Check.due("face, too many: " + found, found.size(), 0);
    }

    private static void others() {
        Check.due("face, final", LowWater.class.getModifiers(), Modifier.PUBLIC | Modifier.FINAL);
        Check.due("face, constructors", LowWater.class.getDeclaredConstructors().length, 1);
        Check.due("face, constructor", LowWater.class.getConstructors()[0].getParameterCount(), 0);
        Check.due("face, constants", LowWater.class.getFields().length, 5);
        for (Member field : LowWater.class.getDeclaredFields()) {
            if (!hidden(field)) {
                int constant = Modifier.PUBLIC | Modifier.STATIC | Modifier.FINAL;
                Check.due("face, " + field, field.getModifiers(), constant);
            }
        }
        Check.due("NONE", LowWater.NONE, -1);
        Check.due("UNKNOWN", LowWater.UNKNOWN, -101);
        Check.due("OUTSIDE", LowWater.OUTSIDE, -102);
        Check.due("STATE", LowWater.STATE, -103);
        Check.due("FULL", LowWater.FULL, -104);
        for (Class<?> inside : LowWater.class.getDeclaredClasses()) {
            Check.due("static, " + inside, inside.getModifiers() & Modifier.STATIC, Modifier.STATIC);
            Check.due("not public, " + inside, inside.getModifiers() & (Modifier.PUBLIC | Modifier.PROTECTED), 0);
        }
    }

    private static void words() throws IOException {
        String text = Files.readString(Path.of("src/main/java/LowWater.java"), StandardCharsets.UTF_8);
        String code = text.replaceAll("(?s)/\\*.*?\\*/|//[^\n]*", "");
        String banned = "throw|throws|try|catch|synchronized|assert|import|package|protected|hashCode|toString";
        Matcher m = Pattern.compile("\\b(" + banned + ")\\b|->|::|\"").matcher(code);
        while (m.find()) {
            Check.due("rules 1 to 6, the program says " + m.group(), 1, 0);
        }
        for (Class<?> inside : LowWater.class.getDeclaredClasses()) {
            for (Method method : inside.getDeclaredMethods()) {
                boolean faces = String.join(" ", FACE).contains(" " + method.getName() + "(");
                Check.due("rule 1, bears a public name: " + method, faces ? 1 : 0, 0);
            }
        }
    }
}
