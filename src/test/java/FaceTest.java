import java.lang.reflect.Field;
import java.lang.reflect.Method;
import java.lang.reflect.Modifier;
import java.nio.file.Files;
import java.nio.file.Path;
import java.util.Set;
import java.util.TreeSet;
import java.util.regex.Pattern;

/** The public face as the document has it, and rules of LANGUAGE.md that can be seen from outside. */
public final class FaceTest {
    private static final String[] METHODS = {"int type(int)", "int wipe()", "int fault()", "int line(int)", "int waits(int,int)",
        "int met(int,int)", "long gaps(int,int,int)", "int held(int,int,int)", "int asked(int,int)", "int read(int,int)",
        "int takeBack(int,int)", "int asOf(int)", "int said(int)", "long share(int,int,int)", "long size(int,int)",
        "int families(int,int,int)", "long chance(int,int)", "int likeliest()", "int stay(int,int)", "int leaves(int,int)",
        "int ward(int,int,int)", "long means(int,int,int,int)", "int fullest(int)", "int friends(int,int,int)", "long mean(int,int)",
        "int fewer()", "long picked(int,int)", "int best(int,int)", "int piece(int)", "int snap()", "long hit(int,int,int)",
        "long stick(int,int,int)", "int sheet(int,int,int)", "int lose(int)", "int put(int,int,int,int)", "int get(int,int,int)",
        "int copy(int,int,int,int,int)", "int write(int,int)", "int count(int)", "long digest()"};

    public static void main(String[] args) throws Exception {
        constants();
        methods();
        fieldsOf(LongestMet.class);
        classesInside();
        sourceKeepsToTheLanguage();
        Due.end();
    }

    private static void constants() {
        Due.is("NONE", LongestMet.NONE, -1);
        Due.is("BAD", LongestMet.BAD, -2);
        Due.is("NOT", LongestMet.NOT, -3);
        Due.is("FULL", LongestMet.FULL, -4);
        Due.isTrue("public and final", LongestMet.class.getModifiers() == (Modifier.PUBLIC | Modifier.FINAL));
        Due.is("constructors", LongestMet.class.getDeclaredConstructors().length, 1);
        Due.is("public constructors", LongestMet.class.getConstructors().length, 1);
        Due.is("public fields", LongestMet.class.getFields().length, 4);
    }

    private static void methods() {
        Set<String> due = new TreeSet<>(Set.of(METHODS));
        Set<String> names = new TreeSet<>();
        for (String method : METHODS) names.add(method.replaceAll(".* |\\(.*", ""));
        for (Method m : LongestMet.class.getDeclaredMethods()) {
            if (Modifier.isPrivate(m.getModifiers())) {
                Due.isTrue("a private method bears a public one's name: " + m, !names.contains(m.getName()));
                continue;
            }
            Due.isTrue("public: " + m, m.getModifiers() == Modifier.PUBLIC);
            Due.isTrue("in the document: " + m, due.remove(signature(m)));
        }
        Due.isTrue("not there: " + due, due.isEmpty());
        for (Class<?> c : LongestMet.class.getDeclaredClasses()) {
            for (Method m : c.getDeclaredMethods()) Due.isTrue("a name of the face: " + m, !names.contains(m.getName()));
        }
    }

    private static String signature(Method m) {
        StringBuilder text = new StringBuilder(m.getReturnType().getName()).append(' ').append(m.getName()).append('(');
        Class<?>[] types = m.getParameterTypes();
        for (int i = 0; i < types.length; i++) text.append(i == 0 ? "" : ",").append(types[i].getName());
        return text.append(')').toString();
    }

    private static void fieldsOf(Class<?> c) {
        int own = 0;
        for (Field f : c.getDeclaredFields()) {
            boolean isStatic = Modifier.isStatic(f.getModifiers());
            if (isStatic) Due.isTrue("a static field is a constant: " + f, Modifier.isFinal(f.getModifiers()) && f.getType().isPrimitive());
            if (!isStatic) own++;
            if (!isStatic) Due.isTrue("private: " + f, Modifier.isPrivate(f.getModifiers()));
        }
        Due.isTrue("some twenty fields: " + c, own <= 20);
    }

    private static void classesInside() {
        Class<?>[] inside = LongestMet.class.getDeclaredClasses();
        Due.isTrue("some twelve classes", inside.length < 12);
        for (Class<?> c : inside) {
            Due.isTrue("static, private: " + c, Modifier.isStatic(c.getModifiers()) && Modifier.isPrivate(c.getModifiers()));
            fieldsOf(c);
        }
    }

    private static void sourceKeepsToTheLanguage() throws Exception {
        String source = Files.readString(Path.of("src/main/java/LongestMet.java"));
        String code = source.replaceAll("(?s)/\\*.*?\\*/", "").replaceAll("//[^\n]*", "");
        String[] never = {"throw", "throws", "try", "catch", "finally", "synchronized", "assert", "import", "package", "while",
            "protected", "volatile", "transient", "native", "Exact", "->", "::", "String", "Object", "Random", "currentTimeMillis", "nanoTime"};
        for (String word : never) {
            String sign = Character.isLetter(word.charAt(0)) ? "\\b" + word + "\\b" : Pattern.quote(word);
            Due.isTrue("not in the program: " + word, !Pattern.compile(sign).matcher(code).find());
        }
    }
}
