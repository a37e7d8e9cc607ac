import java.io.IOException;
import java.lang.reflect.Constructor;
import java.lang.reflect.Field;
import java.lang.reflect.Method;
import java.lang.reflect.Modifier;
import java.nio.file.Files;
import java.nio.file.Path;
import java.util.ArrayList;
import java.util.Arrays;
import java.util.List;
import java.util.Set;
import java.util.TreeSet;
import java.util.regex.Matcher;
import java.util.regex.Pattern;
import java.util.stream.Collectors;

/** The public face as the document has it, and the rules of LANGUAGE.md that can be read off. */
public final class FaceTest {
    private static final String FACE = "ingredient(int) tin(int,int,int) buyable(int,int) substitute(int,int,int) "
        + "stock(int,int) recipe() amount(int,int,int) menu(int,int) hands(int) cook() pass(int) about(int,int) "
        + "ofTin(int,int,int) needs(int,int) step(int,int,int) ofRecipe(int,int) count(int) bestPortions(int,int,int) "
        + "fewestHands(int) ifBuyable(int,int) put(long) wipe() fault() undo() save(int) restore(int)";
    private static final String CONSTANTS = "NO_SUCH BAD_VALUE BAD_TEXT TOO_MANY NOT_POSSIBLE NONE";
    private static final String REFUSED = "throw throws try catch synchronized assert import package instanceof Object "
        + "float double Exception Error Exact hashCode equals toString System.out";

    public static void main(String[] arguments) throws IOException {
        theFaceIsThatOfTheDocument();
        for (Class<?> one : classes()) {
            membersKeepToTheRules(one);
        }
        Check.due("at most twelve classes", 1, classes().size() <= 12 ? 1 : 0);
        theSourceHasNoRefusedWords();
        Check.end("FaceTest");
    }

    private static List<Class<?>> classes() {
        List<Class<?>> classes = new ArrayList<>(List.of(TinKitchen.class));
        classes.addAll(List.of(TinKitchen.class.getDeclaredClasses()));
        return classes;
    }

    private static Set<String> words(String text) {
        return new TreeSet<>(List.of(text.split(" ")));
    }

    private static Set<String> faceNames() {
        return words(FACE.replaceAll("\\([^)]*\\)", ""));
    }

    private static String told(Method method) {
        return method.getName() + Arrays.stream(method.getParameterTypes()).map(Class::getName)
            .collect(Collectors.joining(",", "(", ")"));
    }

    private static void theFaceIsThatOfTheDocument() {
        Check.due("public final", Modifier.PUBLIC | Modifier.FINAL, TinKitchen.class.getModifiers());
        Set<String> methods = new TreeSet<>();
        for (Method method : TinKitchen.class.getDeclaredMethods()) {
            boolean isPublic = Modifier.isPublic(method.getModifiers());
            if (isPublic) {
                methods.add(told(method));
                Check.same("what answers " + method, "int", method.getReturnType().getName());
            } else {
                Check.due("private: " + method, 1, Modifier.isPrivate(method.getModifiers()) ? 1 : 0);
                Check.due("a name of its own: " + method, 0, faceNames().contains(method.getName()) ? 1 : 0);
            }
        }
        Check.same("the methods", words(FACE).toString(), methods.toString());
        Set<String> constants = new TreeSet<>();
        for (Field field : TinKitchen.class.getDeclaredFields()) {
            if (Modifier.isPublic(field.getModifiers())) {
                constants.add(field.getName());
            } else {
                Check.due("private: " + field, 1, Modifier.isPrivate(field.getModifiers()) ? 1 : 0);
            }
        }
        Check.same("the constants", words(CONSTANTS).toString(), constants.toString());
        Constructor<?>[] constructors = TinKitchen.class.getDeclaredConstructors();
        Check.due("one constructor", 1, constructors.length);
        Check.due("without parameters", 0, constructors[0].getParameterCount());
    }

    private static void membersKeepToTheRules(Class<?> one) {
        boolean isInside = one != TinKitchen.class;
        Check.due("static: " + one, isInside ? 1 : 0, Modifier.isStatic(one.getModifiers()) ? 1 : 0);
        Check.due("no classes inside " + one, 0, isInside ? one.getDeclaredClasses().length : 0);
        int fields = 0;
        for (Field field : one.getDeclaredFields()) {
            boolean isStatic = Modifier.isStatic(field.getModifiers());
            Check.due("static fields are final: " + field, isStatic ? 1 : 0,
                isStatic && Modifier.isFinal(field.getModifiers()) ? 1 : 0);
            fields += isStatic ? 0 : 1;
        }
        Check.due("at most twenty fields in " + one, 1, fields <= 20 ? 1 : 0);
        for (Method method : one.getDeclaredMethods()) {
            Check.due("at most seven parameters: " + method, 1, method.getParameterCount() <= 7 ? 1 : 0);
            boolean isOfTheFace = faceNames().contains(method.getName());
            Check.due("a name of its own: " + method, 0, isInside && isOfTheFace ? 1 : 0);
        }
    }

    private static void theSourceHasNoRefusedWords() throws IOException {
        String source = Files.readString(Path.of("src/main/java/TinKitchen.java"));
        String code = source.replaceAll("(?s)/\\*.*?\\*/", "").replaceAll("//[^\n]*", "");
        for (String word : words(REFUSED)) {
            Matcher found = Pattern.compile("\\b" + Pattern.quote(word) + "\\b").matcher(code);
            Check.due("the word " + word, 0, found.find() ? 1 : 0);
        }
        Check.due("no lambda and no method reference", 0, code.contains("->") || code.contains("::") ? 1 : 0);
        Check.due("signs of 1 to 127", 1, source.chars().allMatch(sign -> sign > 0 && sign < 128) ? 1 : 0);
    }
}
