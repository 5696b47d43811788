import java.lang.reflect.Constructor;
import java.lang.reflect.Field;
import java.lang.reflect.Member;
import java.lang.reflect.Method;
import java.lang.reflect.Modifier;
import java.nio.file.Files;
import java.nio.file.Path;
import java.util.Arrays;
import java.util.Set;
import java.util.TreeSet;
import java.util.regex.Matcher;
import java.util.regex.Pattern;

/** The face of the class, and the rules of LANGUAGE.md that can be seen in the text or by reflection. */
public final class SourceTest {
    private static final String FACE = "after(int,int) between(int,int,int,int) catchUp(int,int,int) count(int) crash(int) "
            + "day(int,int,int) deliver(int) desk(int,boolean) due(int,int) effect(int,int,int) effects(int) "
            + "except(int,int) flow(int) holiday(int,int) job(int) letter(int,int) local(int,int) lose(int) "
            + "mask(int,int,long) moment(int,int) now(int) nth(int,int,int) onHoliday(int,int) passed(int) "
            + "pause(int,boolean) register(int,int,int) restart(int) runNow(int) shift(int,int,int) twin(int) "
            + "waiting(int) wake(int) zone()";
    private static final Set<Class<?>> STATIC_TYPES = Set.of(
            int.class, long.class, boolean.class, char.class, String.class, int[].class, long[].class, char[].class, byte[].class);

    private static int wrong = 0;

    private static void holds(String rule, boolean fine) {
        if (!fine) {
            wrong++;
            System.out.println("not kept: " + rule);
        }
    }

    private static void face() {
        Class<?> keeper = TickKeeper.class;
        holds("public and final", Modifier.isPublic(keeper.getModifiers()) && Modifier.isFinal(keeper.getModifiers()));
        TreeSet<String> found = new TreeSet<>();
        for (Method method : keeper.getDeclaredMethods()) {
            if (!Modifier.isPublic(method.getModifiers())) continue;
            StringBuilder text = new StringBuilder(method.getName()).append('(');
            for (Class<?> type : method.getParameterTypes()) {
                if (text.charAt(text.length() - 1) != '(') text.append(',');
                text.append(type.getName());
            }
            found.add(text.append(')').toString());
            holds(method + " answers an int and belongs to an object",
                    method.getReturnType() == int.class && !Modifier.isStatic(method.getModifiers()));
        }
        holds("the methods of the document: " + found, found.equals(new TreeSet<>(Arrays.asList(FACE.split(" ")))));
        Constructor<?>[] constructors = keeper.getDeclaredConstructors();
        holds("one constructor, without parameters", constructors.length == 1 && constructors[0].getParameterCount() == 0);
        TreeSet<String> constants = new TreeSet<>();
        for (Field field : keeper.getDeclaredFields()) if (Modifier.isPublic(field.getModifiers())) constants.add(field.getName());
        holds("the constants of the document", constants.equals(new TreeSet<>(Arrays.asList("BAD", "STATE", "FULL", "NONE"))));
    }

    private static boolean isPublicOrPrivate(Member member) {
        return member.isSynthetic() || Modifier.isPublic(member.getModifiers()) || Modifier.isPrivate(member.getModifiers());
    }

    private static void members() {
        Set<String> open = new TreeSet<>();
        for (Method method : TickKeeper.class.getDeclaredMethods()) {
            holds("1: " + method + " is public or private", isPublicOrPrivate(method));
            if (Modifier.isPublic(method.getModifiers())) open.add(method.getName());
        }
        for (Field field : TickKeeper.class.getDeclaredFields()) holds("1: " + field, isPublicOrPrivate(field));
        Class<?>[] inside = TickKeeper.class.getDeclaredClasses();
        holds("11: some twelve classes", inside.length + 1 <= 12);
        for (Class<?> one : inside) {
            holds("2: " + one + " is static", Modifier.isStatic(one.getModifiers()));
            for (Method method : one.getDeclaredMethods()) holds("1: a name of the face: " + method, !open.contains(method.getName()));
            sizes(one);
        }
        for (Method method : TickKeeper.class.getDeclaredMethods()) {
            holds("1: a name of the face: " + method, Modifier.isPublic(method.getModifiers()) || !open.contains(method.getName()));
        }
        sizes(TickKeeper.class);
    }

    private static void sizes(Class<?> one) {
        int fields = 0;
        for (Field field : one.getDeclaredFields()) {
            if (!Modifier.isStatic(field.getModifiers())) fields++;
            else holds("5: " + field, Modifier.isFinal(field.getModifiers()) && STATIC_TYPES.contains(field.getType()));
        }
        holds("11: some twenty fields: " + one, fields <= 20);
        for (Method method : one.getDeclaredMethods()) holds("11: seven parameters: " + method, method.getParameterCount() <= 7);
    }

    private static void text() throws Exception {
        String source = Files.readString(Path.of("src/main/java/TickKeeper.java"));
        for (char c : source.toCharArray()) {
            if (c > 126) {
                holds("plain characters", false);
                break;
            }
        }
        String code = source.replaceAll("(?s)/\\*.*?\\*/", "").replaceAll("//[^\n]*", "");
        for (String word : "throw throws try catch finally synchronized assert package protected volatile transient native yield var".split(" ")) {
            holds("6: " + word, !Pattern.compile("\\b" + word + "\\b").matcher(code).find());
        }
        holds("2: no lambda, no method reference", !code.contains("->") && !code.contains("::"));
        holds("5: no static block", !Pattern.compile("static\\s*\\{").matcher(code).find());
        holds("10: texts are not joined by +", !code.contains("\""));
        Matcher imports = Pattern.compile("import ([\\w.]+);").matcher(code);
        while (imports.find()) holds("4: " + imports.group(1), imports.group(1).equals("java.util.Arrays"));
        Matcher library = Pattern.compile("\\b(Math|Integer|Long|Arrays|System|String|Character|Objects)\\.(\\w+)").matcher(code);
        Set<String> listed = Set.of("Math.max", "Math.min", "Math.abs", "Math.floorDiv", "Math.floorMod", "Integer.bitCount",
                "Long.bitCount", "Arrays.copyOf");
        while (library.find()) holds("4: " + library.group(), listed.contains(library.group()));
        lengths(source.split("\n"));
    }

    /** By how the file is indented: a method ends at a brace that stands as deep as its head. */
    private static void lengths(String[] lines) {
        for (int i = 0; i < lines.length; i++) {
            Matcher head = Pattern.compile("^( ++)(?!if|for|while|switch|else)[\\w\\[\\] ]+\\(.*\\) \\{$").matcher(lines[i]);
            if (!head.find()) continue;
            int end = i;
            while (end < lines.length && !lines[end].equals(head.group(1) + "}")) end++;
            holds("11: some sixty lines: " + lines[i].trim(), end - i <= 60);
        }
    }

    public static void main(String[] args) throws Exception {
        face();
        members();
        text();
        System.out.println(wrong == 0 ? "all rules are kept" : wrong + " rules are not kept");
        if (wrong != 0) System.exit(1);
    }
}
