import java.io.IOException;
import java.lang.reflect.Constructor;
import java.lang.reflect.Executable;
import java.lang.reflect.Field;
import java.lang.reflect.Modifier;
import java.nio.charset.StandardCharsets;
import java.nio.file.Files;
import java.nio.file.Path;
import java.util.ArrayList;
import java.util.Arrays;
import java.util.List;
import java.util.Random;
import java.util.Set;
import java.util.regex.Matcher;
import java.util.regex.Pattern;

/** What LANGUAGE.md rules, as far as the source, the class and calls can show it; FaceTest has its rule 1. */
public final class LanguageTest {
    private static final Checks CHECKS = new Checks();
    private static final Path SOURCE = Path.of("src/main/java/ShuntYard.java");

    private static final Set<String> IMPORTS = Set.of("java.util.Arrays", "java.util.ArrayList", "java.util.List",
            "java.util.Iterator", "java.util.NoSuchElementException");
    // Rules 2, 6, 8 to 10 and 13; the document asks for no exception, so none is thrown or caught.
    private static final List<String> WORDS_THAT_ARE_NOT_THERE = List.of("package", "try", "catch", "finally", "throw",
            "throws", "synchronized", "volatile", "transient", "native", "strictfp", "assert", "protected", "var",
            "hashCode", "toString", "getClass", "Object", "Thread", "Random", "Float", "Double", "NaN", "File");
    private static final Set<String> LIBRARY = Set.of("System.arraycopy", "Arrays.copyOf", "Arrays.copyOfRange",
            "Arrays.fill", "Math.abs", "Math.max", "Math.min", "Math.floorDiv", "Math.floorMod", "Integer.compare",
            "Integer.bitCount", "List.of");

    private static final String CHANGED = "(\\+\\+|--| [-+*/%&|^]?= )";
    // Texts of wagons and of trains, right ones and wrong ones.
    private static final String[] TEXTS = {"A", "2A", "B A", "Af", "Ax B", "8A", "B", "AB", "AAAAAAAAAA", "", " ",
        "8A B", "3", "Bf A Bx", "A".repeat(60)};

    private LanguageTest() {
    }

    public static void main(String[] args) throws IOException {
        byte[] bytes = Files.readAllBytes(SOURCE);
        dueTrue("all signs are from 1 to 127", allWithin(bytes));
        String code = withoutComments(new String(bytes, StandardCharsets.US_ASCII));
        wordsAreAllowed(code);
        libraryIsAllowed(code);
        loopsHaveABound(code);
        methodsAreShort(code);
        List<Class<?>> classes = new ArrayList<>(List.of(ShuntYard.class.getDeclaredClasses()));
        classes.add(ShuntYard.class);
        dueTrue(classes.size() + " classes", classes.size() <= 12);
        for (Class<?> some : classes) {
            sizesOf(some);
            typesOf(some);
        }
        for (int run = 1; run <= 6; run++) {
            neverThrows(run);
        }
        CHECKS.close();
    }

    private static void dueTrue(String what, boolean holds) {
        CHECKS.dueTrue(what, holds);
    }

    private static boolean allWithin(byte[] bytes) {
        for (byte sign : bytes) {
            if (sign < 1) {
                return false;
            }
        }
        return true;
    }

    /** Texts become empty and signs 0, so that what stands in them is not taken for code. */
    private static String withoutComments(String source) {
        String other = "//[^\n]*|/\\*.*?\\*/|\"(?:[^\"\\\\\n]|\\\\.)*\"|'(?:[^'\\\\\n]|\\\\.)+'";
        return Pattern.compile(other, Pattern.DOTALL).matcher(source).replaceAll(
                match -> match.group().startsWith("\"") ? "\"\"" : " 0 ");
    }

    private static void wordsAreAllowed(String code) {
        for (String word : WORDS_THAT_ARE_NOT_THERE) {
            dueTrue("the word " + word + " is not there", !hasMatch(code, "\\b" + word + "\\b"));
        }
        dueTrue("no lambda, no switch of arrows", !code.contains("->"));
        dueTrue("no method reference", !code.contains("::"));
        dueTrue("no static initialiser", !hasMatch(code, "\\bstatic\\s*\\{"));
        dueTrue("no text is joined by +", !hasMatch(code, "\"\\s*\\+|\\+\\s*\""));
        dueTrue("one public class", code.split("\\bpublic (final )?class\\b", -1).length == 2);
    }

    private static boolean hasMatch(String code, String pattern) {
        return Pattern.compile(pattern).matcher(code).find();
    }

    private static void libraryIsAllowed(String code) {
        Matcher imported = Pattern.compile("(?m)^import ([\\w.*]+);").matcher(code);
        while (imported.find()) {
            dueTrue("import of " + imported.group(1), IMPORTS.contains(imported.group(1)));
        }
        List<String> own = new ArrayList<>();
        for (Class<?> inside : ShuntYard.class.getDeclaredClasses()) {
            own.add(inside.getSimpleName());
        }
        Matcher used = Pattern.compile("\\b([A-Z][a-z]\\w*)\\.(\\w+)").matcher(code.replaceAll("(?m)^import .*$", ""));
        while (used.find()) {
            dueTrue("use of " + used.group(), own.contains(used.group(1)) || LIBRARY.contains(used.group()));
        }
    }

    /** Rule 9: each loop here counts against a bound. */
    private static void loopsHaveABound(String code) {
        dueTrue("no loop without a counter", !hasMatch(code, "\\b(while|do)\\b"));
        Matcher head = Pattern.compile("\\bfor \\(([^;]*);([^;]*);([^{]*)\\) \\{").matcher(code);
        int seen = 0;
        while (head.find()) {
            seen++;
            Matcher counter = Pattern.compile("int (\\w+) = .+").matcher(head.group(1));
            dueTrue("the counter of " + head.group(), counter.matches());
            String name = counter.group(1);
            dueTrue("the bound of " + head.group(), head.group(2).matches(" " + name + " <=? .+"));
            dueTrue("the step of " + head.group(), head.group(3).equals(" " + name + "++"));
            dueTrue("the body of " + head.group(), !hasMatch(block(code, head.end()), "\\b" + name + CHANGED));
        }
        dueTrue("loops", seen > 0 && code.split("\\bfor \\(", -1).length == seen + 1);
    }

    /** What stands up to the brace that closes the one before the position. */
    private static String block(String code, int start) {
        int open = 1;
        int end = start;
        while (open > 0 && end < code.length()) {
            char sign = code.charAt(end);
            open += sign == '{' ? 1 : sign == '}' ? -1 : 0;
            end++;
        }
        return code.substring(start, end);
    }

    private static void methodsAreShort(String code) {
        Matcher head = Pattern.compile("(?m)^ +[\\w\\[\\] ]+\\([\\w\\[\\], ]*\\) \\{").matcher(code);
        int seen = 0;
        while (head.find()) {
            seen++;
            int lines = block(code, head.end()).split("\n").length;
            dueTrue("lines " + lines + " of" + head.group(), lines <= 60);
        }
        dueTrue("methods", seen > 40);
    }

    private static void sizesOf(Class<?> some) {
        long fields = Arrays.stream(some.getDeclaredFields()).filter(f -> !Modifier.isStatic(f.getModifiers())).count();
        dueTrue(fields + " fields of " + some, fields <= 20);
        List<Executable> all = new ArrayList<>(List.of(some.getDeclaredMethods()));
        for (Constructor<?> made : some.getDeclaredConstructors()) {
            all.add(made);
        }
        for (Executable each : all) {
            dueTrue("parameters of " + each, each.getParameterCount() <= 7);
            dueTrue("no exception is told by " + each, each.getExceptionTypes().length == 0);
        }
    }

    private static void typesOf(Class<?> some) {
        for (Field field : some.getDeclaredFields()) {
            Class<?> type = field.getType();
            boolean isStatic = Modifier.isStatic(field.getModifiers());
            Class<?> part = type.isArray() ? type.getComponentType() : type;
            boolean own = part.getEnclosingClass() == ShuntYard.class;
            boolean text = type == String.class;
            dueTrue("the type of " + field, part.isPrimitive() || text || !isStatic && own);
        }
    }

    /** Rule 7 asks it in any state, so also behind the calls for which the document uses an object. */
    private static void neverThrows(int run) {
        Random dice = new Random(run);
        ShuntYard yard = new ShuntYard();
        int most = 0;
        for (int call = 0; call < 100_000; call++) {
            int which = call % 500 == 0 ? 0 : 1 + dice.nextInt(26);
            int a = some(dice);
            int b = some(dice);
            int c = some(dice);
            if (which >= 24) {
                Checks.put(yard, TEXTS[dice.nextInt(TEXTS.length)]);
                which = which == 24 ? 3 : 2;
            }
            try {
                callOn(yard, which, a, b, c);
            } catch (RuntimeException thrown) {
                dueTrue("run " + run + ": call " + which + " of " + a + " " + b + " " + c + " threw " + thrown, false);
                return;
            }
            most = Math.max(most, yard.told(3));
        }
        dueTrue("run " + run + " with up to " + most + " wagons, " + yard.told(8) + " trains", most > 8);
    }

    private static int some(Random dice) {
        int[] far = {Integer.MIN_VALUE, Integer.MAX_VALUE, -1, 0, 1, 2, 3, 4, 8, 9, 60, 126, 127, 600, 1000, 1 << 28};
        return dice.nextInt(4) == 0 ? far[dice.nextInt(far.length)] : dice.nextInt(5);
    }

    private static void callOn(ShuntYard yard, int which, int a, int b, int c) {
        switch (which) {
            case 0: yard.begin(a, 1 + (b & 7)); break;
            case 1: yard.set(a, b); break;
            case 2: yard.arrive(a); break;
            case 3: yard.list(); break;
            case 4: yard.move(a, b, c); break;
            case 5: yard.test(a); break;
            case 6: yard.pause(a); break;
            case 7: yard.depart(a); break;
            case 8: yard.makeUp(a); break;
            case 9: yard.undo(); break;
            case 10: yard.write(a); break;
            case 11: yard.wipe(); break;
            case 12: yard.fault(a); break;
            case 13: yard.told(a); break;
            case 14: yard.setting(a); break;
            case 15: yard.track(a, b); break;
            case 16: yard.wagon(a, b, c); break;
            case 17: yard.train(a); break;
            case 18: yard.find(a, b); break;
            case 19: dueTrue("the mean is a number", !Float.isNaN(yard.mean())); break;
            case 20: yard.cost(a, b, c); break;
            case 21: yard.cheapest(a, b); break;
            case 22: yard.keep(a); break;
            default: yard.back(a); break;
        }
    }
}
