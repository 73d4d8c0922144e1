import java.io.IOException;
import java.lang.reflect.Constructor;
import java.lang.reflect.Field;
import java.lang.reflect.Method;
import java.lang.reflect.Modifier;
import java.nio.charset.StandardCharsets;
import java.nio.file.Files;
import java.nio.file.Path;
import java.util.ArrayList;
import java.util.List;
import java.util.Set;
import java.util.TreeSet;
import java.util.regex.Matcher;
import java.util.regex.Pattern;

/** The program keeps to LANGUAGE.md, as far as its source and its classes show that. */
public final class SourceTest {
    private static final String[] FACE = {
        "int set(int,int,int)", "int man(int,int)", "int told(int,int)", "int fill(int,int,int,int)", "int feed(int)", "int text()",
        "int force(int)", "int say(int,int,int)", "int floss(int,int)", "int kiss(int,int)", "int live()", "int run(int,int)",
        "int off(int,int,int)", "int foods(int,int,int)", "int best(int,int)", "int few(int,int,int)", "int kissing(int,int)",
        "int church(int,int)", "int plan(int,int)", "int tells(int,int,int)", "int film(int,int)", "int drawn(int,int,int)",
        "long chance(int,int,int,int)", "int image()", "int back()", "int count(int)", "int sheet(int,int,int)",
        "int cell(int,int,int)", "int copy(int,int,int,int,int)", "int people(int,int,int,int)", "int taken(int,int)"};
    private static final Set<String> CONSTANTS = Set.of("NONE", "BAD", "STATE", "FULL", "NO");

    private SourceTest() { }

    private static void must(String what, boolean holds) { Check.due(what, holds ? 1 : 0, 1); }

    public static void main(String[] args) throws IOException {
        face();
        List<Class<?>> classes = new ArrayList<>(List.of(AWordStuck.class.getDeclaredClasses()));
        must("2: static classes that are not public", classes.stream().allMatch(c -> isOwn(c.getModifiers())));
        classes.add(AWordStuck.class);
        must("11: some twelve classes", classes.size() <= 12);
        for (Class<?> c : classes) members(c);
        source(Files.readString(Path.of("src/main/java/AWordStuck.java"), StandardCharsets.ISO_8859_1));
        Check.end();
    }

    private static boolean isOwn(int modifiers) {
        return Modifier.isStatic(modifiers) && !Modifier.isPublic(modifiers) && !Modifier.isProtected(modifiers);
    }

    private static void face() {
        Set<String> due = new TreeSet<>(List.of(FACE));
        Set<String> got = new TreeSet<>();
        for (Method m : AWordStuck.class.getDeclaredMethods()) {
            if (Modifier.isPublic(m.getModifiers())) got.add(signature(m));
            else must("1: private " + m.getName(), Modifier.isPrivate(m.getModifiers()));
        }
        must("1: the face's methods, not " + got, got.equals(due));
        for (Field f : AWordStuck.class.getDeclaredFields()) {
            must("1: " + f.getName(), CONSTANTS.contains(f.getName()) ? Modifier.isPublic(f.getModifiers()) : Modifier.isPrivate(f.getModifiers()));
        }
        Constructor<?>[] made = AWordStuck.class.getDeclaredConstructors();
        must("1: one public constructor", made.length == 1 && Modifier.isPublic(made[0].getModifiers()) && made[0].getParameterCount() == 0);
        int class_ = AWordStuck.class.getModifiers();
        must("1: a public final class", Modifier.isPublic(class_) && Modifier.isFinal(class_));
    }

    private static String signature(Method m) {
        StringBuilder s = new StringBuilder(m.getReturnType() + " " + m.getName() + "(");
        for (Class<?> p : m.getParameterTypes()) s.append(s.charAt(s.length() - 1) == '(' ? "" : ",").append(p);
        return s.append(")").toString();
    }

    private static void members(Class<?> c) {
        Set<String> face = new TreeSet<>();
        for (String f : FACE) face.add(f.substring(f.indexOf(' ') + 1, f.indexOf('(')));
        int fields = 0;
        for (Method m : c.getDeclaredMethods()) {
            must("11: parameters of " + m, m.getParameterCount() <= 7);
            must("1: no face's name: " + m, Modifier.isPublic(m.getModifiers()) || !face.contains(m.getName()));
        }
        for (Field f : c.getDeclaredFields()) {
            boolean isStatic = Modifier.isStatic(f.getModifiers());
            if (!isStatic) fields++;
            must("5: final " + f, !isStatic || Modifier.isFinal(f.getModifiers()) && (f.getType().isPrimitive() || f.getType() == String.class));
            Class<?> t = f.getType().isArray() ? f.getType().getComponentType() : f.getType();
            must("3: type of " + f, t.isPrimitive() || t == String.class || t.getName().startsWith("AWordStuck"));
        }
        must("11: some twenty fields of " + c, fields <= 20);
    }

    private static void source(String text) {
        must("4: signs 1 to 127", text.chars().allMatch(ch -> ch == '\n' || ch >= 32 && ch < 127));
        String code = text.replaceAll("(?s)/\\*.*?\\*/", "").replaceAll("//[^\n]*", "").replaceAll("\"[^\"\n]*\"", "\"\"");
        for (String word : List.of("throw", "throws", "try", "catch", "finally", "synchronized", "assert", "import", "package", "record",
                "instanceof", "lambda", "var", "volatile", "transient", "native", "strictfp", "equals", "hashCode", "toString", "yield")) {
            must("6: no " + word, !Pattern.compile("\\b" + word + "\\b").matcher(code).find());
        }
        must("2: no lambda, no reference", !code.contains("->") && !code.contains("::"));
        must("5: no static block", !Pattern.compile("static\\s*\\{").matcher(code).find());
        Matcher library = Pattern.compile("\\b(Math|Integer|Long|Arrays|System|String|StringBuilder|ArrayList|List|Object|Character|Short|Byte)\\.(\\w+)").matcher(code);
        while (library.find()) must("4: " + library.group(), Set.of("max", "min", "bitCount", "arraycopy").contains(library.group(2)));
        Matcher made = Pattern.compile("\\bnew (\\w+)").matcher(code);
        while (made.find()) must("12: new " + made.group(1), Set.of("int", "Text", "Sheet", "Foresight", "Reader", "Bite", "World", "Person").contains(made.group(1)));
        lengths(code.split("\n"));
    }

    /** A method goes from its head to the brace that stands as far in; what it makes, only a constructor may. */
    private static void lengths(String[] lines) {
        for (int i = 0; i < lines.length; i++) {
            Matcher head = Pattern.compile("^( {4}| {8})(?:(?:public|private|static) )*(\\w+ )?(\\w+)\\(.*\\{$").matcher(lines[i]);
            if (!head.find()) continue;
            int end = i;
            boolean makes = false;
            while (!lines[end].equals(head.group(1) + "}")) makes |= lines[end++].contains(" new ");
            must("11: length of " + head.group(3), end - i < 60);
            must("12: " + head.group(3) + " makes no object", !makes || head.group(2) == null || head.group(2).equals("public "));
        }
    }
}
