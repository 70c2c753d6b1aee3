import java.io.IOException;
import java.lang.reflect.Constructor;
import java.lang.reflect.Field;
import java.lang.reflect.Method;
import java.lang.reflect.Modifier;
import java.nio.file.Files;
import java.nio.file.Path;
import java.util.Set;
import java.util.TreeSet;

/** The public face is the document's and no more; the source keeps to the words that the language leaves. */
public final class FaceTest {
    private static final String FACE = "feed(5)int end(1)boolean harbour(0)int fault(1)int has(1)int letter(3)int ware(2)int "
            + "ship(2)int tips(1)int crates(3)int berth(2)int tide(2)int rides(2)int adrift(1)int alike(3)int berthed(2)int "
            + "stow(1)int stowed(1)int order(1)int ordered(1)int swaps(2)int rode(1)int lade(3)int discharge(3)int "
            + "shift(4)boolean moor(2)boolean hours(1)int gales(1)int undo(0)boolean seed(1)boolean kept(2)int image(0)int "
            + "octet(1)int on(0)boolean status(1)int";

    public static void main(String[] args) throws IOException {
        Harness h = new Harness();
        h.topic("the face");
        Set<String> methods = new TreeSet<>();
        Set<String> hidden = new TreeSet<>();
        for (Method method : WrongTide.class.getDeclaredMethods()) {
            if (Modifier.isPublic(method.getModifiers())) {
                methods.add(method.getName() + "(" + method.getParameterCount() + ")" + method.getReturnType());
            } else if (!method.isSynthetic()) {
                h.due(method + " is private", Modifier.isPrivate(method.getModifiers()), true);
                hidden.add(method.getName());
            }
        }
        for (String name : FACE.split(" ")) {
            h.due("there is " + name, methods.remove(name), true);
            h.due("no private " + name, hidden.contains(name.substring(0, name.indexOf('('))), false);
        }
        h.due("no more than the face: " + methods, methods.size(), 0);
        for (Field field : WrongTide.class.getDeclaredFields()) {
            boolean open = field.getName().equals("NONE") || field.getName().equals("NOTHING");
            h.due(field + " is public", Modifier.isPublic(field.getModifiers()), open);
            h.due(field + " is private", Modifier.isPrivate(field.getModifiers()), !open);
        }
        Constructor<?>[] constructors = WrongTide.class.getDeclaredConstructors();
        h.due("one constructor", constructors.length, 1);
        h.due("final", Modifier.isFinal(WrongTide.class.getModifiers()), true);
        language(h, Files.readString(Path.of("src/main/java/WrongTide.java")));
        h.finish("FaceTest");
    }

    private static void language(Harness h, String source) {
        h.topic("the language");
        String code = source.replaceAll("(?s)/\\*.*?\\*/", " ").replaceAll("//[^\n]*", " ").replaceAll("\"[^\"\n]*\"", "\"\"");
        for (String word : "import package try catch throw throws synchronized assert volatile transient native enum interface "
                .concat("double float Object Thread System.out").split(" ")) {
            h.due("no " + word, code.matches("(?s).*\\b" + word.replace(".", "\\.") + "\\b.*"), false);
        }
        h.due("no lambda", code.contains("->"), false);
        h.due("no method reference", code.contains("::"), false);
        int lines = 0;
        for (String line : source.split("\n")) {
            lines = line.matches("    (    )?[a-zA-Z].*\\{") ? 0 : lines + 1;
            if (line.matches("    (    )?\\}")) {
                h.due("a method of " + lines + " lines is short", lines <= 60 || line.equals("    }"), true);
            }
        }
    }
}
