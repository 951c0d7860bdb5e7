import java.lang.reflect.Constructor;
import java.lang.reflect.Field;
import java.lang.reflect.Method;
import java.lang.reflect.Modifier;
import java.nio.file.Files;
import java.nio.file.Path;
import java.util.HashSet;
import java.util.List;
import java.util.Set;
import java.util.regex.Matcher;
import java.util.regex.Pattern;

/** The document's public face, and those rules of LANGUAGE.md that can be seen from the text of the program. */
public final class LanguageTest {
    private static final Path PROGRAM = Path.of("src/main/java/RaftRivers.java");
    private static final String[] FACE = {
        "int station(int,int,int,boolean)", "int trunk(int,int,int)", "int find(int)", "int put(int)", "int bind()",
        "boolean join(int,int)", "int part(int,int)", "boolean unbind(int)", "int crew(int)",
        "boolean ready(int,int)", "boolean tie(int)", "int walk(int)", "int go(int)", "boolean storm(int,int,int)",
        "int breaks(int,boolean)", "boolean right(int,int)", "boolean toll(int,int)",
        "boolean price(int,int,int,int)", "int sell(int)", "int advance(int,int)", "int balance(int)",
        "int best(int,int)", "int passes(int,int)", "int told(int,int)", "int raft(int,int)", "int crewed(int,int)",
        "int count(int)"};
    private static final String[] FORBIDDEN = {
        "\\bthrow\\b", "\\bthrows\\b", "\\btry\\b", "\\bcatch\\b", "\\bsynchronized\\b", "\\bassert\\b",
        "->", "::", "\\bimport\\b", "\\bpackage\\b", "\\bnative\\b", "\\bSystem\\.(?!arraycopy)", "\\bThread\\b",
        "\\bhashCode\\b", "\\btoString\\b", "Exact\\(", "\\bstatic\\s*\\{", "\\bObject\\b", "\\bwhile \\(true\\)",
        "\\bfor \\(;;\\)"};
    private static final Due due = new Due();

    public static void main(String[] args) throws Exception {
        face();
        nestedClasses();
        String text = Files.readString(PROGRAM);
        words(withoutComments(text));
        longMethods(text);
        due.end();
    }

    private static String signature(Method method) {
        StringBuilder text = new StringBuilder();
        text.append(method.getReturnType().getName()).append(' ').append(method.getName()).append('(');
        for (Class<?> type : method.getParameterTypes()) {
            text.append(text.charAt(text.length() - 1) == '(' ? "" : ",").append(type.getName());
        }
        return text.append(')').toString();
    }

    private static void face() throws Exception {
        due.part("rule 1 and the public face");
        Class<?> type = RaftRivers.class;
        due.is("public and final", type.getModifiers(), Modifier.PUBLIC | Modifier.FINAL);
        Set<String> left = new HashSet<>(List.of(FACE));
        Set<String> names = new HashSet<>();
        for (Method method : type.getDeclaredMethods()) {
            if (Modifier.isPrivate(method.getModifiers())) {
                continue;
            }
            due.is(signature(method), method.getModifiers(), Modifier.PUBLIC);
            due.yes(signature(method) + " is of the face", left.remove(signature(method)));
            names.add(method.getName());
        }
        due.is("missing: " + left, left.size(), 0);
        for (Class<?> one : allClasses()) {
            for (Method method : one.getDeclaredMethods()) {
                boolean own = one == type && !Modifier.isPrivate(method.getModifiers());
                due.yes(signature(method) + " has a name of its own", own || !names.contains(method.getName()));
                due.yes(signature(method) + " takes at most seven", method.getParameterCount() <= 7);
            }
        }
        Constructor<?>[] made = type.getDeclaredConstructors();
        due.is("constructors", made.length, 1);
        due.is("its parameters", made[0].getParameterCount(), 0);
        due.is("public", made[0].getModifiers(), Modifier.PUBLIC);
        for (Field field : type.getDeclaredFields()) {
            boolean none = field.getName().equals("NONE");
            due.yes(field.getName(), none == Modifier.isPublic(field.getModifiers()));
            due.yes(field.getName() + " is private", none || Modifier.isPrivate(field.getModifiers()));
        }
        Field none = type.getDeclaredField("NONE");
        due.is("NONE", none.getModifiers(), Modifier.PUBLIC | Modifier.STATIC | Modifier.FINAL);
        due.yes("NONE is an int", none.getType() == int.class);
    }

    private static List<Class<?>> allClasses() {
        List<Class<?>> all = new java.util.ArrayList<>(List.of(RaftRivers.class.getDeclaredClasses()));
        all.add(RaftRivers.class);
        return all;
    }

    private static void nestedClasses() {
        due.part("rules 2, 5 and 11");
        due.yes("some twelve classes", allClasses().size() <= 12);
        for (Class<?> type : allClasses()) {
            boolean outer = type == RaftRivers.class;
            due.yes(type + " is static", outer || Modifier.isStatic(type.getModifiers()));
            due.yes(type + " isn't public", outer || !Modifier.isPublic(type.getModifiers()));
            int fields = 0;
            for (Field field : type.getDeclaredFields()) {
                boolean isStatic = Modifier.isStatic(field.getModifiers());
                fields += isStatic ? 0 : 1;
                due.yes(field + " is final", !isStatic || Modifier.isFinal(field.getModifiers()));
            }
            due.yes(type + " has some twenty fields: " + fields, fields <= 20);
        }
    }

    private static String withoutComments(String text) {
        return text.replaceAll("(?s)/\\*.*?\\*/", "").replaceAll("//[^\n]*", "");
    }

    private static void words(String code) {
        due.part("rules 2, 4 and 6");
        for (String word : FORBIDDEN) {
            Matcher found = Pattern.compile(word).matcher(code);
            due.no(word + " is in the program", found.find());
        }
    }

    private static void longMethods(String text) {
        due.part("rule 11");
        int start = -1;
        String[] lines = text.split("\n");
        for (int i = 0; i < lines.length; i++) {
            if (lines[i].matches("( {4}| {8})\\w[^;=]*\\) \\{")) {
                start = i;
            } else if (start >= 0 && lines[i].matches("( {4}| {8})\\}") && indent(lines[i]) == indent(lines[start])) {
                due.yes("short: " + lines[start].trim(), i - start <= 60);
                start = -1;
            }
        }
    }

    private static int indent(String line) {
        return line.length() - line.stripLeading().length();
    }
}
