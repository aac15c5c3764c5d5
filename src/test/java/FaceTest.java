import java.lang.reflect.Field;
import java.lang.reflect.Method;
import java.lang.reflect.Modifier;
import java.nio.charset.StandardCharsets;
import java.nio.file.Files;
import java.nio.file.Path;
import java.util.ArrayList;
import java.util.Arrays;
import java.util.List;
import java.util.TreeSet;
import java.util.regex.Pattern;

/** The public face, and those rules of LANGUAGE.md that can be seen from outside or in the text. */
public final class FaceTest {
    private static final Due DUE = new Due("FaceTest");
    private static final String[] FACE = {
        "boolean drop(int)", "boolean prime(int)", "boolean same(int,int)", "int apply(int,int,int)",
        "int at(int,int,int)", "int constant(long)", "int degree(int,int)", "int factor(int)",
        "int factorAt(int,int)", "int factorOf(int,int)", "int interpolate()", "int part(int,int)", "int plus(int,long,int,int)", "int point(long,long)",
        "int power(int,long,int)", "int root(int)", "int take(int)", "int told(int)", "int value(int,long,long)",
        "int variable(int)"};
    private static final String[] OUTSIDE = {"throw", "try", "catch", "synchronized", "assert", "import", "package",
        "finally", "throws", "Object", "Random", "System.out", "->", "::"};

    public static void main(String[] args) throws Exception {
        face();
        inside();
        text();
        DUE.end();
    }

    private static void face() {
        Class<?> type = PolyWork.class;
        DUE.is("public and final", type.getModifiers(), Modifier.PUBLIC | Modifier.FINAL);
        DUE.is("one constructor", type.getDeclaredConstructors().length, 1);
        DUE.is("without arguments", type.getConstructors()[0].getParameterCount(), 0);
        TreeSet<String> methods = new TreeSet<>();
        for (Method method : type.getDeclaredMethods()) {
            if (!Modifier.isPrivate(method.getModifiers())) {
                DUE.is(method + " is public, not static", method.getModifiers(), Modifier.PUBLIC);
                String parameters = Arrays.toString(method.getParameterTypes()).replaceAll("[\\[\\] ]", "");
                methods.add(method.getReturnType() + " " + method.getName() + "(" + parameters + ")");
            }
        }
        DUE.is("the document's methods " + methods, methods.equals(new TreeSet<>(Arrays.asList(FACE))), true);
        for (Field field : type.getDeclaredFields()) {
            boolean open = !Modifier.isPrivate(field.getModifiers());
            DUE.is(field + " is open", open, field.getName().equals("NONE"));
            if (open) {
                int kind = Modifier.PUBLIC | Modifier.STATIC | Modifier.FINAL;
                DUE.is(field + " is a constant", field.getModifiers(), kind);
                DUE.is(field + " is an int", field.getType() == int.class, true);
            }
        }
        DUE.is("NONE", PolyWork.NONE, -1);
    }

    private static void inside() {
        List<Class<?>> types = new ArrayList<>(Arrays.asList(PolyWork.class.getDeclaredClasses()));
        DUE.is("classes", types.size() < 12, true);
        for (Class<?> type : types) {
            DUE.is(type + " is static", Modifier.isStatic(type.getModifiers()), true);
            DUE.is(type + " is not public", Modifier.isPublic(type.getModifiers()), false);
        }
        types.add(PolyWork.class);
        for (Class<?> type : types) {
            int fields = 0;
            for (Field field : type.getDeclaredFields()) {
                fields += Modifier.isStatic(field.getModifiers()) ? 0 : 1;
            }
            DUE.is(type + ": fields", fields <= 20, true);
            for (Method method : type.getDeclaredMethods()) {
                DUE.is(method + ": parameters", method.getParameterCount() <= 7, true);
                if (!Modifier.isPublic(method.getModifiers())) {
                    String name = " " + method.getName() + "(";
                    DUE.is(method + ": a public name", Arrays.toString(FACE).contains(name), false);
                }
            }
        }
    }

    private static void text() throws Exception {
        byte[] bytes = Files.readAllBytes(Path.of("src/main/java/PolyWork.java"));
        String all = new String(bytes, StandardCharsets.UTF_8);
        String text = all.replaceAll("(?s)/\\*.*?\\*/", "").replaceAll("//.*", "");
        for (String word : OUTSIDE) {
            String edge = Character.isLetter(word.charAt(0)) ? "\\b" : "";
            boolean found = Pattern.compile(edge + Pattern.quote(word) + edge).matcher(text).find();
            DUE.is("'" + word + "' in the text", found, false);
        }
        int start = 0;
        String[] lines = text.split("\n");
        for (int k = 0; k < lines.length; k++) {
            if (lines[k].endsWith(") {") && lines[k].matches("( {4}| {8})\\S.*")) {
                start = k;
            } else if (lines[k].matches("( {4}| {8})}")) {
                DUE.is("line " + start + ": a method of some sixty lines", k - start <= 60 || start == 0, true);
            }
        }
    }
}
