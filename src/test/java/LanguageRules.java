import java.lang.reflect.Field;
import java.lang.reflect.Method;
import java.lang.reflect.Modifier;
import java.nio.file.Files;
import java.nio.file.Path;
import java.util.Arrays;
import java.util.List;
import java.util.TreeSet;
import java.util.regex.Matcher;
import java.util.regex.Pattern;

/** What of ../shared/LANGUAGE.md can be seen from outside: the face, and words that the source may not have. */
public final class LanguageRules {
    private static final String FACE = "ahead(int,int,int)int ask()int back()int chance(int,int,int)int common(int)int "
            + "count(int)int depth(int)int fault(int)int feed(int,int,int,int,int)int go(int)int guess(int,int)int is(int)int "
            + "keep()int law(int,int)long likely(int,int)int look(int,int)int named(int,int)int own(int)int parts()int "
            + "peep(int,int)int person(int,int)int real()int rest(int,int,int)int rests(int,int)int rounds(int)int "
            + "secret(int,int)int sure(int,int)int teach(int)int teachAll()int tell(int)int text(int)int "
            + "tried(int,int,int)int undo()int willKnow(int)int world(int,int)int";
    private static final String[] BARRED = {"->", "::", "synchronized", "assert", "finally", "try", "catch", "double",
        "float", "Exact(", "Random", "Thread", "native", "volatile", "transient", "goto", "toString", "hashCode",
        "getClass", "import static", "protected", "var"};

    private static int wrong = 0;

    private static void check(boolean holds, String what) {
        if (!holds) {
            wrong++;
            System.out.println("rule broken: " + what);
        }
    }

    private static String signature(Method m) {
        StringBuilder b = new StringBuilder(m.getName()).append('(');
        for (Class<?> c : m.getParameterTypes()) {
            b.append(b.charAt(b.length() - 1) == '(' ? "" : ",").append(c.getName());
        }
        return b.append(')').append(m.getReturnType().getName()).toString();
    }

    private static void face() {
        TreeSet<String> face = new TreeSet<>();
        for (Method m : HatRoom.class.getDeclaredMethods()) {
            if (Modifier.isPublic(m.getModifiers())) {
                face.add(signature(m));
            } else {
                check(Modifier.isPrivate(m.getModifiers()), "1: " + m);
            }
        }
        check(face.equals(new TreeSet<>(Arrays.asList(FACE.split(" ")))), "1: the face is " + face);
        check(Modifier.isFinal(HatRoom.class.getModifiers()), "1: the class is final");
        check(HatRoom.class.getDeclaredConstructors().length == 1, "1: one constructor");
        for (Field f : HatRoom.class.getDeclaredFields()) {
            boolean ok = f.getName().equals("NONE") ? Modifier.isPublic(f.getModifiers()) : Modifier.isPrivate(f.getModifiers());
            check(ok, "1: " + f);
        }
    }

    private static void classes() {
        TreeSet<String> names = new TreeSet<>();
        for (Method m : HatRoom.class.getMethods()) {
            if (m.getDeclaringClass() == HatRoom.class) {
                names.add(m.getName());
            }
        }
        Class<?>[] inside = HatRoom.class.getDeclaredClasses();
        check(inside.length <= 11, "11: " + inside.length + " classes inside");
        for (Class<?> c : inside) {
            check(Modifier.isStatic(c.getModifiers()), "1: " + c);
            for (Method m : c.getDeclaredMethods()) {
                check(!names.contains(m.getName()), "1: named as one of the face: " + m);
            }
        }
        for (Method m : HatRoom.class.getDeclaredMethods()) {
            check(Modifier.isPublic(m.getModifiers()) || !names.contains(m.getName()), "1: " + m);
        }
        Class<?>[] all = Arrays.copyOf(inside, inside.length + 1);
        all[inside.length] = HatRoom.class;
        for (Class<?> c : all) {
            int fields = 0;
            for (Field f : c.getDeclaredFields()) {
                boolean isStatic = Modifier.isStatic(f.getModifiers());
                fields += isStatic ? 0 : 1;
                check(!isStatic || Modifier.isFinal(f.getModifiers()), "5: " + f);
            }
            check(fields <= 20, "11: " + fields + " fields in " + c);
            for (Method m : c.getDeclaredMethods()) {
                check(m.getParameterCount() <= 7, "11: " + m);
            }
        }
    }

    private static void source(List<String> lines) {
        int begin = -1;
        String indent = "";
        Pattern head = Pattern.compile("( {4}| {8})[a-zA-Z].*\\(.*\\).*\\{");
        for (int i = 0; i < lines.size(); i++) {
            String line = lines.get(i);
            int at = i + 1;
            check(line.chars().allMatch(c -> c >= 32 && c < 127), "3: sign in line " + at);
            String code = line.replaceAll("\"[^\"]*\"", "\"\"");
            boolean comment = code.trim().startsWith("//") || code.trim().startsWith("*") || code.trim().startsWith("/*");
            for (String word : BARRED) {
                String pattern = Character.isLetter(word.charAt(0)) ? "\\b" + Pattern.quote(word) : Pattern.quote(word);
                String whole = Character.isLetter(word.charAt(word.length() - 1)) ? pattern + "\\b" : pattern;
                check(comment || !Pattern.compile(whole).matcher(code).find(), word + " in line " + at);
            }
            check(comment || !code.matches(".*(\"\"\\s*\\+|\\+\\s*\"\").*"), "10: + of texts in line " + at);
            check(!code.startsWith("import ") || code.equals("import java.util.NoSuchElementException;"), "4: " + line);
            check(comment || !code.contains("System.") || code.contains("System.arraycopy("), "4: " + line);
            Matcher m = head.matcher(code);
            if (!comment && m.matches() && !code.contains(" new ")) {
                begin = i;
                indent = m.group(1);
            } else if (begin >= 0 && code.equals(indent + "}")) {
                check(i - begin < 60, "11: " + (i - begin) + " lines from line " + (begin + 1));
                begin = -1;
            }
        }
    }

    public static void main(String[] args) throws Exception {
        face();
        classes();
        source(Files.readAllLines(Path.of("src/main/java/HatRoom.java")));
        System.out.println(wrong == 0 ? "the language is kept" : wrong + " rules broken");
        if (wrong != 0) {
            System.exit(1);
        }
    }
}
