import java.lang.reflect.Constructor;
import java.lang.reflect.Field;
import java.lang.reflect.Method;
import java.lang.reflect.Modifier;
import java.nio.file.Files;
import java.nio.file.Path;
import java.util.TreeSet;

/** The face of the class, and those rules of LANGUAGE.md that a program can look at. */
final class FaceTest extends Checks {
    /** Each method, and what it throws: index, argument, state. */
    private static final String[] FACE = {
        "int yard(int,int) argument", "int level(int,int) index argument state",
        "int wind(int,int,int) argument state", "int zone(int,int,int,int,int) index argument state",
        "int load(int,int) index argument state", "int crane(int,int,int,int,int) index argument state",
        "int step(int,int) index argument state", "int hang(int) index", "int set(int) index",
        "int hand(int,int) index argument", "int rest(int) argument state", "int ofCrane(int,int) index argument",
        "int ofLoad(int,int) index argument", "int ofCell(int,int) index argument",
        "int would(int,int) index argument", "int clash(int,int) index argument", "int way(int,int) index",
        "int field(int) index", "int swing(int,boolean) index", "int order(int) argument", "int many(int) argument",
        "String drawn(int) index", "boolean isSound()", "int knock()", "long digest()",
    };
    private static final String[] BANNED = {
        "->", "::", "synchronized", "assert ", "finally", "catch", "static {", "getClass", "hashCode", ".equals(",
        "System.out", "Random", "Thread", "float", "double", "Object", "List.of", "Exact", " + \"", "\" + ",
        "import java.io", "import java.lang", "ArrayIndex", "NullPointer", "record ", "instanceof",
    };

    public static void main(String[] args) throws Exception {
        theClassIsPublicAndFinal();
        theFaceIsThatOfTheDocument();
        noFieldIsSeen();
        noInnerMethodBearsAPublicName();
        theSourceKeepsToTheLanguage();
        end("FaceTest");
    }

    private static void theClassIsPublicAndFinal() {
        is(Modifier.PUBLIC | Modifier.FINAL, Slewyard.class.getModifiers());
        Constructor<?>[] constructors = Slewyard.class.getDeclaredConstructors();
        is(1, constructors.length);
        is(0, constructors[0].getParameterCount());
        is(Modifier.PUBLIC, constructors[0].getModifiers());
    }

    private static void theFaceIsThatOfTheDocument() {
        TreeSet<String> want = new TreeSet<>();
        for (String method : FACE) {
            want.add(method);
        }
        TreeSet<String> got = new TreeSet<>();
        for (Method method : Slewyard.class.getDeclaredMethods()) {
            if (Modifier.isPrivate(method.getModifiers())) {
                is(false, isNameOfTheFace(method.getName()));
            } else {
                is(Modifier.PUBLIC, method.getModifiers());
                got.add(told(method));
            }
        }
        is(want, got);
    }

    private static String told(Method method) {
        StringBuilder text = new StringBuilder(method.getReturnType().getSimpleName());
        text.append(' ').append(method.getName()).append('(');
        for (Class<?> type : method.getParameterTypes()) {
            text.append(text.charAt(text.length() - 1) == '(' ? "" : ",").append(type.getSimpleName());
        }
        text.append(')');
        for (Class<?> kind : method.getExceptionTypes()) {
            text.append(kind == IndexOutOfBoundsException.class ? " index" : kind == IllegalArgumentException.class
                ? " argument" : kind == IllegalStateException.class ? " state" : " " + kind.getName());
        }
        return text.toString();
    }

    private static boolean isNameOfTheFace(String name) {
        for (String method : FACE) {
            if (method.contains(" " + name + "(")) {
                return true;
            }
        }
        return false;
    }

    private static void noFieldIsSeen() {
        for (Field field : Slewyard.class.getDeclaredFields()) {
            is(true, Modifier.isPrivate(field.getModifiers()));
        }
    }

    private static void noInnerMethodBearsAPublicName() {
        Class<?>[] inner = Slewyard.class.getDeclaredClasses();
        is(true, inner.length < 12);
        for (Class<?> one : inner) {
            is(true, Modifier.isStatic(one.getModifiers()) && !Modifier.isPublic(one.getModifiers()));
            for (Method method : one.getDeclaredMethods()) {
                is(false, isNameOfTheFace(method.getName()));
                is(true, method.getParameterCount() <= 7);
            }
        }
    }

    private static void theSourceKeepsToTheLanguage() throws Exception {
        String source = Files.readString(Path.of("src/main/java/Slewyard.java"));
        for (String word : BANNED) {
            is(word + " at -1", word + " at " + source.indexOf(word));
        }
        for (int k = 0; k < source.length(); k++) {
            if (source.charAt(k) > 126) {
                is("a plain sign", source.substring(k, k + 1));
            }
        }
    }
}
