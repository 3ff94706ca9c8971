import java.io.IOException;
import java.lang.reflect.Constructor;
import java.lang.reflect.Field;
import java.lang.reflect.Method;
import java.lang.reflect.Modifier;
import java.nio.file.Files;
import java.nio.file.Path;
import java.util.ArrayList;
import java.util.Arrays;
import java.util.List;
import java.util.Set;
import java.util.TreeSet;
import java.util.regex.Matcher;
import java.util.regex.Pattern;

/** ../shared/LANGUAGE.md, as far as it can be seen from the class and from its text: the face, words, lengths. */
public final class LanguageTest {
    private static final String FACE = "feed1 meadow0 fault0 told1 duellist2 compliment2 truth2 effect2 duel2 say1 pass0 "
            + "sorry0 undo1 act2 vanity3 drift1 best1 greatest1 harden4 deeds3 league1 met2 shared2 powder0 warm4 "
            + "vain2 probe2 cheek1 said1 surely0 write1 judge1 tear0 seed1 keep1 goBack1";
    private static final String CONSTANTS = "FULL NONE NOT OUTSIDE UNKNOWN";
    private static final String[] FORBIDDEN = {"\\bthrow\\b", "\\bthrows\\b", "\\btry\\b", "\\bcatch\\b",
        "\\bsynchronized\\b", "\\bassert\\b", "->", "::", "\\bimport\\b", "\\bpackage\\b", "\\bstatic\\s*\\{",
        "\\bobject\\b", "\\bObject\\b", "\\bequals\\b", "\\bhashCode\\b", "\\btoString\\b", "\\bnew\\s+int\\[[^\\]]*\\]\\[",
        "\\bThread\\b", "\\bcurrentTimeMillis\\b", "\\bnanoTime\\b", "\\bRandom\\b", "\\w+Exact\\b", "\\bprotected\\b"};
    private static final Due due = new Due();

    public static void main(String[] args) throws IOException {
        face();
        insideClasses();
        source(Files.readString(Path.of("src/main/java/PraiseDuels.java")));
        due.end("LanguageTest");
    }

    private static void yes(String what, boolean is) {
        due.is(what, is ? 1 : 0, 1);
    }

    private static void face() {
        Set<String> open = new TreeSet<>();
        for (Method method : PraiseDuels.class.getDeclaredMethods()) {
            int modifiers = method.getModifiers();
            if (!Modifier.isPrivate(modifiers)) {
                open.add(method.getName() + method.getParameterCount());
                boolean plain = Modifier.isPublic(modifiers) && !Modifier.isStatic(modifiers);
                yes(method + " is public", plain && method.getReturnType() == int.class);
                for (Class<?> type : method.getParameterTypes()) {
                    yes(method + " takes int", type == int.class);
                }
            }
        }
        yes("the face is " + open, open.equals(new TreeSet<>(Arrays.asList(FACE.split(" ")))));
        Set<String> constants = new TreeSet<>();
        for (Field field : PraiseDuels.class.getDeclaredFields()) {
            if (!Modifier.isPrivate(field.getModifiers())) {
                constants.add(field.getName());
                yes(field + " is a constant", (field.getModifiers() & (Modifier.STATIC | Modifier.FINAL | Modifier.PUBLIC))
                        == (Modifier.STATIC | Modifier.FINAL | Modifier.PUBLIC) && field.getType() == int.class);
            }
        }
        yes("the constants are " + constants, constants.equals(new TreeSet<>(Arrays.asList(CONSTANTS.split(" ")))));
        Constructor<?>[] constructors = PraiseDuels.class.getDeclaredConstructors();
        yes("one constructor", constructors.length == 1 && Modifier.isPublic(constructors[0].getModifiers())
                && constructors[0].getParameterCount() == 0);
        yes("public and final", (PraiseDuels.class.getModifiers() & Modifier.FINAL) != 0
                && (PraiseDuels.class.getModifiers() & Modifier.PUBLIC) != 0);
    }

    private static void insideClasses() {
        List<Class<?>> all = new ArrayList<>(List.of(PraiseDuels.class));
        all.addAll(Arrays.asList(PraiseDuels.class.getDeclaredClasses()));
        yes("twelve classes at most", all.size() <= 12);
        Set<String> names = new TreeSet<>();
        for (String part : FACE.split(" ")) {
            names.add(part.replaceAll("\\d", ""));
        }
        for (Class<?> type : all) {
            if (type != PraiseDuels.class) {
                boolean open = (type.getModifiers() & (Modifier.PUBLIC | Modifier.PROTECTED)) != 0;
                yes(type + " is static, not public", Modifier.isStatic(type.getModifiers()) && !open);
            }
            int fields = 0;
            for (Field field : type.getDeclaredFields()) {
                boolean isStatic = Modifier.isStatic(field.getModifiers());
                fields += isStatic ? 0 : 1;
                yes(field + " is final if static", !isStatic || Modifier.isFinal(field.getModifiers()));
            }
            yes(type + " has twenty fields at most", fields <= 20);
            for (Method method : type.getDeclaredMethods()) {
                boolean ofFace = type == PraiseDuels.class && Modifier.isPublic(method.getModifiers());
                yes(method + " has a name of its own", ofFace || !names.contains(method.getName()));
                yes(method + " takes seven at most", method.getParameterCount() <= 7);
            }
        }
    }

    private static void source(String text) {
        String code = text.replaceAll("(?s)/\\*.*?\\*/", "").replaceAll("//[^\n]*", "");
        for (String word : FORBIDDEN) {
            Matcher found = Pattern.compile(word).matcher(code);
            yes("nothing like " + word, !found.find());
        }
        for (int i = 0; i < text.length(); i++) {
            if (text.charAt(i) < 1 || text.charAt(i) > 126) {
                yes("the sign at " + i + " is plain", false);
            }
        }
        int start = 0;
        String[] lines = code.split("\n");
        for (int i = 0; i < lines.length; i++) {
            if (lines[i].matches("    (    )?\\w.*\\) \\{")) {
                start = i;
            }
            if (lines[i].matches("    (    )?\\}")) {
                yes("the method at line " + (start + 1) + " has sixty lines at most", i - start < 60);
            }
        }
    }
}
