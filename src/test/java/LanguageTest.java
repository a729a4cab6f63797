import java.io.IOException;
import java.lang.reflect.Constructor;
import java.lang.reflect.Field;
import java.lang.reflect.Method;
import java.lang.reflect.Modifier;
import java.nio.file.Files;
import java.nio.file.Path;
import java.util.Arrays;
import java.util.Set;
import java.util.TreeSet;
import java.util.regex.Pattern;

/** The constants, the face, and what of ../shared/LANGUAGE.md can be seen without a compiler of one's own. */
public final class LanguageTest {
    private static final String FACE = "volume(int) share(int) drop(int) promise(int,int) set(int,int) "
        + "write(int,int,int) trim(int,int) sweep(int) merge() read(int,int,int) volumeOf(int,int) "
        + "pieceOf(int,int) warningOf(int,int) couldGet(int) couldFree(int) family(int,int) ranked(int) "
        + "over(int) count(int) undo() type(int) clearText() fault(int) play()";

    public static void main(String[] args) throws IOException {
        constants();
        face();
        source(Files.readString(Path.of("src/main/java/ThinVolumes.java")));
        Check.end("LanguageTest");
    }

    private static void constants() {
        Check.due("INVALID_ARGUMENT", ThinVolumes.INVALID_ARGUMENT, -1000001);
        Check.due("NOT_POSSIBLE", ThinVolumes.NOT_POSSIBLE, -1000002);
        Check.due("LIMIT_REACHED", ThinVolumes.LIMIT_REACHED, -1000003);
        Check.due("NOT_FOUND", ThinVolumes.NOT_FOUND, -1000004);
        Check.due("REFUSED", ThinVolumes.REFUSED, -1000005);
    }

    private static void face() {
        Class<?> c = ThinVolumes.class;
        Check.due("public and final", Modifier.isPublic(c.getModifiers()) && Modifier.isFinal(c.getModifiers()));
        Set<String> due = new TreeSet<>(Arrays.asList(FACE.split(" ")));
        Set<String> names = new TreeSet<>();
        for (String call : due) {
            names.add(call.substring(0, call.indexOf('(')));
        }
        Set<String> found = new TreeSet<>();
        for (Method method : c.getDeclaredMethods()) {
            if (!Modifier.isPrivate(method.getModifiers()) && !method.isSynthetic()) {
                found.add(signature(method));
                Check.due(method + " is public, of an object and answers an int",
                    method.getModifiers() == Modifier.PUBLIC && method.getReturnType() == int.class);
            }
        }
        Check.due("the methods are " + due + ", found " + found, due.equals(found));
        Constructor<?>[] constructors = c.getDeclaredConstructors();
        Check.due("one public constructor without arguments", constructors.length == 1
            && constructors[0].getParameterCount() == 0 && Modifier.isPublic(constructors[0].getModifiers()));
        int open = 0;
        for (Field field : c.getDeclaredFields()) {
            open += Modifier.isPrivate(field.getModifiers()) ? 0 : 1;
            Check.due(field + " is final if it is static",
                !Modifier.isStatic(field.getModifiers()) || Modifier.isFinal(field.getModifiers()));
        }
        Check.due("fields that are not private", open, 5);
        noPrivateNamesake(c, names);
        Check.due("at most twelve classes", c.getDeclaredClasses().length < 12);
        for (Class<?> inside : c.getDeclaredClasses()) {
            Check.due(inside + " is static", Modifier.isStatic(inside.getModifiers()));
            noPrivateNamesake(inside, names);
        }
    }

    private static void noPrivateNamesake(Class<?> c, Set<String> names) {
        for (Method method : c.getDeclaredMethods()) {
            boolean namesake = c != ThinVolumes.class || Modifier.isPrivate(method.getModifiers());
            Check.due(method + " bears a name of its own", !namesake || !names.contains(method.getName()));
            Check.due(method + " takes at most seven", method.getParameterCount() <= 7);
        }
    }

    private static String signature(Method method) {
        StringBuilder text = new StringBuilder(method.getName()).append('(');
        for (Class<?> type : method.getParameterTypes()) {
            text.append(text.charAt(text.length() - 1) == '(' ? "" : ",").append(type.getName());
        }
        return text.append(')').toString();
    }

    private static void source(String file) {
        String code = file.replaceAll("(?s)/\\*.*?\\*/", " ").replaceAll("//[^\n]*", " ")
            .replaceAll("'(\\\\.|[^'\\\\])'", "0").replaceAll("\"(\\\\.|[^\"\\\\])*\"", "0");
        String[] bannedWords = {"package", "throws?", "try", "catch", "finally", "synchronized", "assert", "volatile",
            "native", "\\w+Exact", "\\w*Exception", "Thread", "Random", "System\\.(?!arraycopy)\\w+"};
        for (String word : bannedWords) {
            Check.due("the program has no " + word, !Pattern.compile("\\b" + word + "\\b").matcher(code).find());
        }
        Check.due("the program has no lambda", !code.contains("->"));
        Check.due("the program has no method reference", !code.contains("::"));
        for (int at = 0; at < file.length(); at++) {
            Check.due("sign " + (int) file.charAt(at) + " is plain", file.charAt(at) < 127);
        }
        Check.due("every for has a condition", !Pattern.compile("for\\s*\\([^;:()]*;\\s*;").matcher(code).find());
        Check.due("no while (true)", !Pattern.compile("while\\s*\\(\\s*true").matcher(code).find());
    }
}
