import java.io.IOException;
import java.lang.reflect.Constructor;
import java.lang.reflect.Field;
import java.lang.reflect.Method;
import java.lang.reflect.Modifier;
import java.nio.file.Files;
import java.nio.file.Path;
import java.util.Set;
import java.util.TreeSet;
import java.util.regex.Matcher;
import java.util.regex.Pattern;

/** The public face is the document's and nothing more (LANGUAGE.md, rules 1, 2 and 5). */
public final class FaceTest {
    private static final Due DUE = new Due();

    public static void main(String[] args) throws IOException {
        String document = Files.readString(Path.of("../shared/DOC.md"));
        String face = document.substring(document.indexOf("```java"));
        face = face.substring(0, face.indexOf("\n}"));
        constants();
        methods(face);
        nestedClasses();
        DUE.close("FaceTest");
    }

    private static void constants() {
        DUE.is("BAD", ThankingGifts.BAD, -1);
        DUE.is("NOT", ThankingGifts.NOT, -2);
        DUE.is("FULL", ThankingGifts.FULL, -3);
        DUE.is("NONE", ThankingGifts.NONE, -4);
        DUE.is("NULL", ThankingGifts.NULL, -11);
        DUE.is("CAST", ThankingGifts.CAST, -12);
        DUE.is("INDEX", ThankingGifts.INDEX, -13);
        DUE.is("SIZE", ThankingGifts.SIZE, -14);
        int visible = 0;
        for (Field field : ThankingGifts.class.getDeclaredFields()) {
            int modifiers = field.getModifiers();
            visible += Modifier.isPrivate(modifiers) ? 0 : 1;
            DUE.isTrue(field.getName() + " is final if static",
                    !Modifier.isStatic(modifiers) || Modifier.isFinal(modifiers));
        }
        DUE.is("fields that are not private", visible, 8);
    }

    private static void methods(String face) {
        Set<String> told = new TreeSet<>();
        Matcher matcher = Pattern.compile("public int (\\w+)\\(([^)]*)\\);").matcher(face);
        while (matcher.find()) {
            told.add(matcher.group(1) + "(" + matcher.group(2).replaceAll(" \\w+(?=,|$)", "") + ")");
        }
        DUE.is("methods in the document's face", told.size(), 34);
        Set<String> open = new TreeSet<>();
        Set<String> hiddenNames = new TreeSet<>();
        for (Method method : ThankingGifts.class.getDeclaredMethods()) {
            if (Modifier.isPrivate(method.getModifiers())) {
                hiddenNames.add(method.getName());
            } else {
                open.add(signature(method));
            }
        }
        DUE.isTrue("face " + told + " is " + open, told.equals(open));
        for (String signature : told) {
            String name = signature.substring(0, signature.indexOf('('));
            DUE.isTrue("no private method is named " + name, !hiddenNames.contains(name));
        }
        Constructor<?>[] constructors = ThankingGifts.class.getDeclaredConstructors();
        DUE.is("constructors", constructors.length, 1);
        DUE.isTrue("the constructor is public and bare",
                constructors[0].getModifiers() == Modifier.PUBLIC && constructors[0].getParameterCount() == 0);
        DUE.isTrue("the class is public and final",
                ThankingGifts.class.getModifiers() == (Modifier.PUBLIC | Modifier.FINAL));
    }

    private static String signature(Method method) {
        StringBuilder text = new StringBuilder(method.getName()).append('(');
        for (Class<?> type : method.getParameterTypes()) {
            text.append(text.charAt(text.length() - 1) == '(' ? "" : ", ").append(type.getName());
        }
        return text.append(')').toString();
    }

    private static void nestedClasses() {
        DUE.isTrue("at most twelve classes in all", ThankingGifts.class.getDeclaredClasses().length <= 11);
        for (Class<?> nested : ThankingGifts.class.getDeclaredClasses()) {
            int modifiers = nested.getModifiers();
            DUE.isTrue(nested + " is static and not public",
                    Modifier.isStatic(modifiers) && !Modifier.isPublic(modifiers) && !Modifier.isProtected(modifiers));
            for (Field field : nested.getDeclaredFields()) {
                DUE.isTrue(field + " is not static", !Modifier.isStatic(field.getModifiers()));
            }
        }
    }
}
