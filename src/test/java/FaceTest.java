import java.io.IOException;
import java.lang.reflect.Constructor;
import java.lang.reflect.Field;
import java.lang.reflect.Method;
import java.lang.reflect.Modifier;
import java.nio.file.Files;
import java.nio.file.Path;
import java.util.Arrays;
import java.util.TreeSet;
import java.util.Set;

/** The face of the class, and what of ../shared/LANGUAGE.md can be seen by reflection and in the text. */
public final class FaceTest {
    private static final String[] FACE = {"int status()", "long top()", "long bottom()", "boolean tray(int,int,int)",
        "boolean write(int,int,long)", "long read(int,int)", "boolean pour(int,int,int,int,int)",
        "int feed(int,int,int,int,int)", "int wall(int)", "int round(int)", "int fault(int)", "int many(int)",
        "int stone(int,int)", "int mason(int,int)", "int hollows(int,int)", "int hollowAt(int)", "int nextHollow(int)",
        "int gap()", "int shift(int)", "int price()", "int dearest()", "int astray()", "int knock(int)",
        "boolean note(int,int)", "int clear()", "int wrong()", "int least(boolean)", "int ways(boolean)",
        "int explain(boolean)", "int slipAt(int,int)", "int firstCount()", "int sure(int,boolean)",
        "boolean blame(int,boolean)", "int telling(boolean,int)", "int oaths()", "int oathAt(int,int)",
        "int bestKnock(boolean)", "int twice()", "int twiceAt(int)", "int fits(int,int,int)", "int both(int,int,int,int)",
        "int join(int,int,int)", "int years()", "int against()", "int dated(int,int)", "boolean hammer(int)",
        "int walk(int,int)", "int walked(int)", "boolean odds(int,int,int)", "int mark()", "int back()"};

    public static void main(String[] args) throws IOException {
        face();
        fields(HollowWall.class);
        for (Class<?> inside : HollowWall.class.getDeclaredClasses()) {
            Checks.holds(inside + " is static", Modifier.isStatic(inside.getModifiers()));
            Checks.holds(inside + " is not public", !Modifier.isPublic(inside.getModifiers()));
            Checks.holds(inside + " is not protected", !Modifier.isProtected(inside.getModifiers()));
            fields(inside);
            names(inside);
        }
        Checks.holds("some twelve classes", HollowWall.class.getDeclaredClasses().length <= 11);
        text();
        Checks.end();
    }

    private static String told(Method method) {
        StringBuilder told = new StringBuilder();
        told.append(method.getReturnType().getSimpleName()).append(' ').append(method.getName()).append('(');
        for (Class<?> type : method.getParameterTypes()) {
            told.append(told.charAt(told.length() - 1) == '(' ? "" : ",").append(type.getSimpleName());
        }
        return told.append(')').toString();
    }

    private static void face() {
        Set<String> open = new TreeSet<>();
        Set<String> names = new TreeSet<>();
        for (String method : FACE) {
            names.add(method.substring(method.indexOf(' ') + 1, method.indexOf('(')));
        }
        for (Method method : HollowWall.class.getDeclaredMethods()) {
            if (!Modifier.isPrivate(method.getModifiers())) {
                open.add(told(method));
                Checks.holds(method + " is public", Modifier.isPublic(method.getModifiers()));
                Checks.same(method + " declares exceptions", method.getExceptionTypes().length, 0);
            } else {
                Checks.holds(method + " has a name of its own", !names.contains(method.getName()));
            }
        }
        Checks.holds("the face " + open, open.equals(new TreeSet<>(Arrays.asList(FACE))));
        Constructor<?>[] makers = HollowWall.class.getDeclaredConstructors();
        Checks.same("constructors", makers.length, 1);
        Checks.holds("public, of nothing", Modifier.isPublic(makers[0].getModifiers()) && makers[0].getParameterCount() == 0);
        Checks.holds("final", Modifier.isFinal(HollowWall.class.getModifiers()));
        Checks.holds("no package", HollowWall.class.getPackageName().isEmpty());
        Checks.same("NONE", HollowWall.NONE, -1);
    }

    private static void names(Class<?> inside) {
        Set<String> face = new TreeSet<>();
        for (String method : FACE) {
            face.add(method.substring(method.indexOf(' ') + 1, method.indexOf('(')));
        }
        for (Method method : inside.getDeclaredMethods()) {
            Checks.holds(method + " has a name of its own", !face.contains(method.getName()));
            Checks.holds(method + " has at most seven parameters", method.getParameterCount() <= 7);
        }
    }

    private static void fields(Class<?> owner) {
        int own = 0;
        for (Field field : owner.getDeclaredFields()) {
            int how = field.getModifiers();
            if (Modifier.isStatic(how)) {
                Checks.holds(field + " is a constant", Modifier.isFinal(how)
                    && (field.getType().isPrimitive() || field.getType() == String.class));
            } else {
                own++;
            }
            if (owner == HollowWall.class && !field.getName().equals("NONE")) {
                Checks.holds(field + " is private", Modifier.isPrivate(how));
            }
        }
        Checks.holds(owner + " has some twenty fields, not " + own, own <= 21);
    }

    private static void text() throws IOException {
        String text = Files.readString(Path.of("src/main/java/HollowWall.java"));
        String code = text.replaceAll("(?s)/\\*.*?\\*/", "").replaceAll("//[^\n]*", "").replaceAll("\"[^\"]*\"", "\"\"")
            .replaceAll("'[^']*'", "' '");
        String[] banned = {"throw", "try", "catch", "finally", "synchronized", "assert", "->", "::", "double", "float",
            "Exact", "instanceof", "transient", "volatile", "native", "var", "package", "@"};
        for (String word : banned) {
            boolean found = Character.isLetter(word.charAt(0)) ? code.matches("(?s).*\\b" + word + "\\b.*") : code.contains(word);
            Checks.holds("no " + word, !found);
        }
        Checks.holds("no text is joined by +", !code.matches("(?s).*(\"\"\\s*\\+|\\+\\s*\"\").*"));
        for (String line : text.split("\n")) {
            if (line.startsWith("import")) {
                Checks.holds(line, line.equals("import java.util.Arrays;"));
            }
        }
        for (int i = 0; i < text.length(); i++) {
            if (text.charAt(i) > 126) {
                Checks.holds("a sign above 126 at " + i, false);
            }
        }
        methodLengths(code);
    }

    private static void methodLengths(String code) {
        int depth = 0;
        int lines = 0;
        for (String line : code.split("\n")) {
            int before = depth;
            for (int i = 0; i < line.length(); i++) {
                depth += line.charAt(i) == '{' ? 1 : line.charAt(i) == '}' ? -1 : 0;
            }
            boolean opens = depth > before && line.endsWith(") {") && !line.matches("\\s*(if|for|while|switch|\\}).*");
            lines = opens ? 0 : lines + 1;
            Checks.holds("a method of at most sixty lines", depth < 2 || lines <= 60);
        }
    }
}
