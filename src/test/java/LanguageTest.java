import java.io.IOException;
import java.lang.reflect.Constructor;
import java.lang.reflect.Field;
import java.lang.reflect.Method;
import java.lang.reflect.Modifier;
import java.nio.file.Files;
import java.nio.file.Path;
import java.util.Set;
import java.util.TreeSet;
import java.util.regex.Matcher;
import java.util.regex.Pattern;

/** Those rules of LANGUAGE.md that can be seen by a look at the face and at the text. */
public final class LanguageTest {
    private static final Path SOURCE = Path.of("src/main/java/SugarKitchen.java");
    /** The methods of the document's section 'The public face', with their types. */
    private static final Set<String> FACE = Set.of(
        "boolean allow(int)", "boolean bounds(int,int,int)", "boolean grain(int,int)",
        "boolean place(int,int,int)", "boolean row(int,int,int)",
        "boolean stir(int,int,boolean)", "boolean take(int)",
        "boolean temper(int,int,int,int,int,int)", "boolean tick(int,int,int)",
        "boolean vouch(int)", "boolean wash(int,int,int)", "int about(int)", "int at(int,int)",
        "int batch(int)", "int batchOf(int,int)", "int boxOf(int,int)", "int cook(int,int)",
        "int cut(int,int,int)", "int dip(int,int,int)", "int heat(int,int)", "int left(int)",
        "int lot(int,int)", "int order(boolean,int)", "int pack(int,int,int)",
        "int pieceOf(int,int)", "int put(int,int,int)", "int queue(int)",
        "int recall(int,int,int)", "int table(int,int)", "int why(int)",
        "int would(int,int,int,int)");
    private static final String[] REFUSED = {"->", "::", "\\btry\\b", "\\bcatch\\b", "\\bthrow\\b",
        "\\bfinally\\b", "\\bsynchronized\\b", "\\bassert\\b", "\\bpackage\\b", "\\bFloat\\b",
        "\\bDouble\\b", "\\b(Integer|Long)\\.[A-Z]", "\\w+Exact\\b", "static\\s*\\{",
        "\\bSystem\\.(?!arraycopy)", "\\bvar\\b",
        "import(?! java\\.util\\.(Arrays|ArrayList|List|Iterator);)", "[^\\x00-\\x7f]"};

    public static void main(String[] args) throws IOException {
        Due due = new Due("LanguageTest");
        face(due);
        nested(due);
        String text = Files.readString(SOURCE);
        String code = text.replaceAll("(?s)/\\*.*?\\*/", "").replaceAll("//[^\n]*", "");
        for (String refused : REFUSED) {
            due.is("has " + refused, false, Pattern.compile(refused).matcher(code).find());
        }
        methods(due, code);
        due.end();
    }

    private static void face(Due due) {
        Set<String> seen = new TreeSet<>();
        for (Method m : SugarKitchen.class.getDeclaredMethods()) {
            if (Modifier.isPublic(m.getModifiers())) {
                seen.add(m.toString().replaceAll("public |SugarKitchen\\.", ""));
            } else {
                due.is(m + " is private", true, Modifier.isPrivate(m.getModifiers()));
                due.is(m + " has a name of its own", false, isOfTheFace(m.getName()));
            }
        }
        due.is("the face is " + seen, true, FACE.equals(seen));
        for (Field f : SugarKitchen.class.getDeclaredFields()) {
            due.is(f + " is private", !f.getName().equals("NONE"),
                    Modifier.isPrivate(f.getModifiers()));
            statics(due, f);
        }
        Constructor<?>[] made = SugarKitchen.class.getDeclaredConstructors();
        due.is("constructors", 1, made.length);
        due.is("the constructor is public", true, Modifier.isPublic(made[0].getModifiers()));
        due.is("final", true, Modifier.isFinal(SugarKitchen.class.getModifiers()));
    }

    private static boolean isOfTheFace(String name) {
        for (String method : FACE) {
            if (method.contains(" " + name + "(")) {
                return true;
            }
        }
        return false;
    }

    private static void statics(Due due, Field f) {
        if (Modifier.isStatic(f.getModifiers())) {
            due.is(f + " is final", true, Modifier.isFinal(f.getModifiers()));
            due.is(f + " is an int", true, f.getType() == int.class);
        }
    }

    private static void nested(Due due) {
        Class<?>[] inside = SugarKitchen.class.getDeclaredClasses();
        due.is("at most twelve classes", true, inside.length <= 12);
        for (Class<?> c : inside) {
            due.is(c + " is static", true, Modifier.isStatic(c.getModifiers()));
            due.is(c + " is not public", false, Modifier.isPublic(c.getModifiers()));
            int fields = 0;
            for (Field f : c.getDeclaredFields()) {
                statics(due, f);
                fields += Modifier.isStatic(f.getModifiers()) ? 0 : 1;
            }
            due.is(c + " has at most twenty fields", true, fields <= 20);
            for (Method m : c.getDeclaredMethods()) {
                due.is(m + " has a name of its own", false, isOfTheFace(m.getName()));
                due.is(m + " takes at most seven", true, m.getParameterCount() <= 7);
            }
        }
    }

    /** A method begins at a line that ends in ") {" and ends at a brace as deep as its beginning. */
    private static void methods(Due due, String code) {
        String[] lines = code.split("\n");
        Pattern head = Pattern.compile("^( {4}| {8})\\w[^=;]*\\([^)]*\\)? ?\\{?.*$");
        for (int i = 0; i < lines.length; i++) {
            Matcher m = head.matcher(lines[i]);
            if (m.matches() && lines[i].endsWith(") {")
                    && !lines[i].trim().matches("(if|for|while|switch).*")) {
                int end = i + 1;
                while (end < lines.length && !lines[end].equals(m.group(1) + "}")) {
                    end++;
                }
                due.is("line " + i + " begins a method of at most 60 lines", true, end - i <= 60);
            }
        }
    }
}
