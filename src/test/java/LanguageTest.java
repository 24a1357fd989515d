import java.io.IOException;
import java.lang.reflect.Constructor;
import java.lang.reflect.Field;
import java.lang.reflect.Method;
import java.lang.reflect.Modifier;
import java.nio.file.Files;
import java.nio.file.Path;
import java.util.Arrays;
import java.util.List;
import java.util.Set;
import java.util.TreeSet;
import java.util.regex.Matcher;
import java.util.regex.Pattern;

/** The public face of the document, and the rules of LANGUAGE.md that can be seen without reading the code. */
public final class LanguageTest {
    private static final Path SOURCE = Path.of("src/main/java/ConvolutionBench.java");
    private static final String[] FACE = {
        "int row(int,int,int)", "int share(int,int)", "int kind(int,int)", "int put(int,int,long)", "long at(int,int)",
        "long as(int,int,int)", "int reverse(int)", "int shift(int,int)", "long root(int,int)", "int transform(int,int)",
        "int times(int)", "long value(int)", "int inverse(int)", "int multiply(int,int,int)", "int circular(int,int,int)",
        "int correlate(int,int)", "int slide(int,int)", "long high(int)", "long low(int)", "int carry(int,int)",
        "int cost(int,int,int)", "int plan(int,int)", "int power(int,int,int,int)", "int series(int,int,int)",
        "int divide(int,int,int)", "int evaluate(int,int,int)", "int interpolate(int,int,int)", "long residue(int)",
        "long rest(int)", "int match(int,int,long)", "int matchAt(int)", "int real(int,int)", "long realAt(int)",
        "int fault()", "int told(int)"};
    private static final List<Class<?>> CONSTANTS =
        List.of(int.class, long.class, boolean.class, char.class, String.class, int[].class, long[].class, char[].class, byte[].class);

    public static void main(String[] args) throws IOException {
        face();
        constants();
        Check.holds("at most some twelve classes", ConvolutionBench.class.getDeclaredClasses().length < 12);
        members(ConvolutionBench.class);
        for (Class<?> inside : ConvolutionBench.class.getDeclaredClasses()) {
            int modifiers = inside.getModifiers();
            Check.holds(inside + " is static and not public", Modifier.isStatic(modifiers) && !Modifier.isPublic(modifiers)
                && !Modifier.isProtected(modifiers));
            members(inside);
        }
        text();
        Check.finish("LanguageTest");
    }

    private static void face() {
        Check.holds("public and final", Modifier.toString(ConvolutionBench.class.getModifiers()).equals("public final"));
        Check.holds("without a package", ConvolutionBench.class.getPackageName().isEmpty());
        Set<String> found = new TreeSet<>();
        for (Method m : ConvolutionBench.class.getDeclaredMethods()) {
            if (Modifier.isPrivate(m.getModifiers())) continue;
            Check.holds(m + " is public and of an object", m.getModifiers() == Modifier.PUBLIC);
            String types = Arrays.toString(Arrays.stream(m.getParameterTypes()).map(Class::getName).toArray());
            found.add(m.getReturnType() + " " + m.getName() + types.replace(" ", "").replace('[', '(').replace(']', ')'));
        }
        Check.holds("the methods of the document: " + found, found.equals(new TreeSet<>(Arrays.asList(FACE))));
        Constructor<?>[] made = ConvolutionBench.class.getDeclaredConstructors();
        Check.holds("one constructor", made.length == 1 && made[0].getParameterCount() == 0 && made[0].getModifiers() == Modifier.PUBLIC);
    }

    private static void constants() {
        Check.due("UNKNOWN", ConvolutionBench.UNKNOWN, -1);
        Check.due("OUTSIDE", ConvolutionBench.OUTSIDE, -2);
        Check.due("STATE", ConvolutionBench.STATE, -3);
        Check.due("FULL", ConvolutionBench.FULL, -4);
        Check.due("NONE", ConvolutionBench.NONE, -9);
        Set<String> open = new TreeSet<>();
        for (Field f : ConvolutionBench.class.getDeclaredFields()) {
            if (!Modifier.isPrivate(f.getModifiers())) open.add(f.getName());
        }
        Check.holds("no other constants", open.equals(Set.of("UNKNOWN", "OUTSIDE", "STATE", "FULL", "NONE")));
    }

    private static void members(Class<?> one) {
        Set<String> faceNames = new TreeSet<>();
        for (String call : FACE) {
            faceNames.add(call.substring(call.indexOf(' ') + 1, call.indexOf('(')));
        }
        for (Method m : one.getDeclaredMethods()) {
            Check.holds(m + " takes at most seven", m.getParameterCount() <= 7);
            boolean isFace = one == ConvolutionBench.class && Modifier.isPublic(m.getModifiers());
            Check.holds(m + " bears no name of the face", isFace || !faceNames.contains(m.getName()));
        }
        int held = 0;
        for (Field f : one.getDeclaredFields()) {
            if (!Modifier.isStatic(f.getModifiers())) {
                held++;
            } else {
                Check.holds(f + " is a constant", Modifier.isFinal(f.getModifiers()) && CONSTANTS.contains(f.getType()));
            }
        }
        Check.holds(one + " has at most some twenty fields", held <= 20);
    }

    private static void text() throws IOException {
        String text = Files.readString(SOURCE);
        String code = text.replaceAll("(?s)/\\*.*?\\*/", "").replaceAll("//[^\n]*", "");
        String[] ruledOut = {"\\bthrow\\b", "\\btry\\b", "\\bcatch\\b", "\\bfinally\\b", "\\bassert\\b", "\\bsynchronized\\b",
            "->", "::", "\\bimport\\b", "\\bpackage\\b", "\\bstatic\\s*\\{", "\\bDouble\\.", "\\bFloat\\.", "\\bSystem\\.", "\\bNaN\\b",
            "\\bObject\\b", "\\bThread\\b", "\\bstrictfp\\b", "\\bnative\\b", "Exact\\("};
        for (String form : ruledOut) {
            Check.holds("no " + form, !Pattern.compile(form).matcher(code).find());
        }
        Matcher used = Pattern.compile("\\bMath\\.(\\w+)").matcher(code);
        while (used.find()) {
            Check.holds("Math." + used.group(1), Set.of("max", "min", "abs", "floorMod").contains(used.group(1)));
        }
        Check.holds("signs 0 to 127 alone", text.chars().allMatch(c -> c < 128));
    }
}
