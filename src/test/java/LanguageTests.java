import java.io.IOException;
import java.lang.reflect.Constructor;
import java.lang.reflect.Field;
import java.lang.reflect.Method;
import java.lang.reflect.Modifier;
import java.nio.file.Files;
import java.nio.file.Path;
import java.util.Arrays;
import java.util.HashSet;
import java.util.Set;
import java.util.TreeSet;

/** The document's face, and the rules of LANGUAGE.md that can be seen in the class or its text. */
public final class LanguageTests {
    private static final Path SOURCE = Path.of("src/main/java/PictureBeats.java");
    private static final String[] FACE = {
        "boolean line(int,int,int,int)", "boolean field(int,int,int,int,boolean)", "boolean put(int,int)",
        "boolean four(int,int)", "boolean register(int,int)", "int entry(int,int,int,int)", "void clear()",
        "boolean readers(int,int)", "boolean depth(int)", "boolean sprite(int,int,int,int)",
        "boolean bits(int,boolean,int)", "int ticks(int)", "int shown(int,int)", "int now(int)", "int signals(int)",
        "int value(int)", "int row(int,int)", "int least(int,int)", "int fit(int,int,int,int,int,int)",
        "boolean image(int)", "boolean again(int)"};

    private LanguageTests() {
    }

    public static void main(String[] args) throws IOException {
        theFace();
        theClassesInside();
        theText();
        Due.end();
    }

    private static void theFace() {
        Class<?> type = PictureBeats.class;
        Due.yes("public and final", Modifier.isPublic(type.getModifiers()) && Modifier.isFinal(type.getModifiers()));
        Set<String> names = new HashSet<>();
        Set<String> found = new TreeSet<>();
        for (Method method : type.getDeclaredMethods()) {
            if (Modifier.isPublic(method.getModifiers())) {
                found.add(told(method));
                names.add(method.getName());
            } else {
                Due.yes(method.getName() + " is private", Modifier.isPrivate(method.getModifiers()));
            }
        }
        Set<String> due = new TreeSet<>(Arrays.asList(FACE));
        if (!found.equals(due)) {
            System.out.println("the face is " + found);
        }
        Due.yes("the face is the document's", found.equals(due));
        for (Method method : type.getDeclaredMethods()) {
            Due.no(method.getName() + " bears a public name", Modifier.isPrivate(method.getModifiers())
                && names.contains(method.getName()));
        }
        for (Field field : type.getDeclaredFields()) {
            boolean isPublic = Modifier.isPublic(field.getModifiers());
            Due.equal(field.getName() + " is public", isPublic ? 1 : 0, field.getName().equals("NONE") ? 1 : 0);
            Due.yes(field.getName() + " is private or public", isPublic || Modifier.isPrivate(field.getModifiers()));
        }
        Constructor<?>[] makers = type.getDeclaredConstructors();
        Due.equal("constructors", makers.length, 1);
        Due.yes("the constructor is public", Modifier.isPublic(makers[0].getModifiers()));
        Due.equal("it takes nothing", makers[0].getParameterCount(), 0);
    }

    private static String told(Method method) {
        StringBuilder text = new StringBuilder(method.getReturnType().toString());
        text.append(' ').append(method.getName()).append('(');
        for (Class<?> parameter : method.getParameterTypes()) {
            text.append(text.charAt(text.length() - 1) == '(' ? "" : ",").append(parameter);
        }
        return text.append(')').toString();
    }

    private static void theClassesInside() {
        Class<?>[] inside = PictureBeats.class.getDeclaredClasses();
        Due.yes("at most twelve classes", inside.length + 1 <= 12);
        for (Class<?> type : inside) {
            Due.yes(type.getName() + " is static", Modifier.isStatic(type.getModifiers()));
            Due.no(type.getName() + " is public", Modifier.isPublic(type.getModifiers()));
            Due.yes(type.getName() + " has at most twenty fields", type.getDeclaredFields().length <= 20);
            for (Field field : type.getDeclaredFields()) {
                Due.yes(field + " is no static state",
                    !Modifier.isStatic(field.getModifiers()) || Modifier.isFinal(field.getModifiers()));
            }
            for (Method method : type.getDeclaredMethods()) {
                Due.yes(method + " takes at most seven", method.getParameterCount() <= 7);
            }
        }
    }

    private static void theText() throws IOException {
        String text = Files.readString(SOURCE).replaceAll("(?s)/\\*.*?\\*/", " ").replaceAll("//[^\n]*", " ");
        String[] refused = {"throw", "throws", "try", "catch", "finally", "synchronized", "assert", "package", "Exception",
            "equals", "hashCode", "toString", "addExact", "Thread", "Random", "nanoTime", "currentTimeMillis"};
        Set<String> words = new HashSet<>(Arrays.asList(text.split("\\W+")));
        for (String word : refused) {
            Due.no("the text has " + word, words.contains(word));
        }
        Due.no("the text has a lambda", text.contains("->"));
        Due.no("the text has a method reference", text.contains("::"));
        Due.no("the text has a while without a counter", words.contains("while"));
        Due.equal("imports", text.split("\\bimport\\b", -1).length - 1, 1);
        Due.yes("the one import", text.contains("import java.util.Arrays;"));
        Due.yes("characters 0 to 127 alone", text.chars().allMatch(c -> c < 128));
    }
}
