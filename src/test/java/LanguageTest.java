import java.io.IOException;
import java.lang.reflect.Constructor;
import java.lang.reflect.Field;
import java.lang.reflect.Method;
import java.lang.reflect.Modifier;
import java.nio.file.Files;
import java.nio.file.Path;
import java.util.List;
import java.util.Set;
import java.util.TreeSet;
import java.util.regex.Matcher;
import java.util.regex.Pattern;

/** The rules of LANGUAGE.md that can be seen from outside: the face, the words, the library, the lengths. */
public final class LanguageTest {
    private static final Check CHECK = new Check();

    private static final Set<String> FACE = Set.of(
        "int feed(int,int,int,int,int)", "boolean end(int)", "int fault()", "int court()", "int room(int,int)",
        "int guest(int,int)", "int rule(int,int)", "boolean rest(int,boolean)", "boolean comes(int,boolean)",
        "boolean seat(int,int,int)", "boolean leave(int)", "boolean sits(int,boolean)", "int higher(int,int,int,int)",
        "int source(int,int,int)", "int slights(int,int,int)", "int slight(int,int,int,int)", "int minds(int,int,int)",
        "int ring(int,int)", "int quarrels(int)", "int toRest(int,int)", "int order(int,int)", "int rounds(int,int)",
        "int few(int,int)", "int least(int,int)", "int best(int,int,boolean)", "int must(int,int)", "int free(int,int)",
        "int mended(int,int,int)", "int evened(int,int,int)", "int count(int)");

    private static final Set<String> LIBRARY = Set.of("Math.max", "Math.min", "Math.abs", "Integer.bitCount", "Arrays.fill",
        "System.arraycopy");

    private LanguageTest() {
    }

    public static void main(String[] args) throws IOException {
        face();
        classesInside();
        String source = Files.readString(Path.of(System.getProperty("firstin.source", "src/main/java/FirstIn.java")));
        words(bare(source));
        library(bare(source));
        lengths(source);
        CHECK.close("LanguageTest");
    }

    private static void must(String what, boolean holds) {
        CHECK.due(what, holds, true);
    }

    private static String signature(Method m) {
        StringBuilder text = new StringBuilder(m.getReturnType() + " " + m.getName() + "(");
        for (Class<?> type : m.getParameterTypes()) {
            text.append(text.charAt(text.length() - 1) == '(' ? "" : ",").append(type);
        }
        return text.append(")").toString();
    }

    private static void face() {
        must("public and final", Modifier.isPublic(FirstIn.class.getModifiers()) && Modifier.isFinal(FirstIn.class.getModifiers()));
        Set<String> open = new TreeSet<>();
        Set<String> names = new TreeSet<>();
        for (Method m : FirstIn.class.getDeclaredMethods()) {
            if (Modifier.isPublic(m.getModifiers())) {
                open.add(signature(m));
                names.add(m.getName());
            } else {
                must(m + " is private", Modifier.isPrivate(m.getModifiers()));
            }
        }
        must("the methods of the face: " + open, open.equals(new TreeSet<>(FACE)));
        for (Method m : FirstIn.class.getDeclaredMethods()) {
            must(m + " bears no public name", Modifier.isPublic(m.getModifiers()) || !names.contains(m.getName()));
        }
        for (Constructor<?> c : FirstIn.class.getDeclaredConstructors()) {
            must("one constructor", Modifier.isPublic(c.getModifiers()) && c.getParameterCount() == 0);
        }
        for (Field f : FirstIn.class.getDeclaredFields()) {
            must(f + " is private", Modifier.isPrivate(f.getModifiers()) || f.getName().equals("NONE"));
        }
    }

    private static void classesInside() {
        must("some twelve classes", FirstIn.class.getDeclaredClasses().length < 12);
        Set<String> faceNames = new TreeSet<>();
        FACE.forEach(s -> faceNames.add(s.replaceAll(".* (\\w+)\\(.*", "$1")));
        for (Class<?> c : FirstIn.class.getDeclaredClasses()) {
            must(c + " is private, static, final", Modifier.isPrivate(c.getModifiers()) && Modifier.isStatic(c.getModifiers())
                && Modifier.isFinal(c.getModifiers()));
            for (Method m : c.getDeclaredMethods()) {
                must(m + " bears no public name", !faceNames.contains(m.getName()));
                must(m + " has few parameters", m.getParameterCount() <= 7);
            }
            int fields = 0;
            for (Field f : c.getDeclaredFields()) {
                boolean isStatic = Modifier.isStatic(f.getModifiers());
                must(f + " is final if static", !isStatic || Modifier.isFinal(f.getModifiers()));
                fields += isStatic ? 0 : 1;
            }
            must(c + " has some twenty fields: " + fields, fields <= 20);
        }
    }

    /** The source without comments and texts. */
    private static String bare(String source) {
        return source.replaceAll("(?s)/\\*.*?\\*/", "").replaceAll("//[^\n]*", "").replaceAll("\"[^\"\n]*\"", "\"\"");
    }

    private static void words(String bare) {
        for (String word : List.of("throw", "throws", "try", "catch", "synchronized", "assert", "volatile", "native", "protected",
            "double", "float", "instanceof", "Object", "Exception", "Random", "Thread", "equals", "hashCode", "toString", "var")) {
            must("no " + word, !Pattern.compile("\\b" + word + "\\b").matcher(bare).find());
        }
        must("no lambda, no method reference", !bare.contains("->") && !bare.contains("::"));
        must("no other sign", bare.chars().allMatch(c -> c < 127));
        Matcher imports = Pattern.compile("import ([^;]+);").matcher(bare);
        while (imports.find()) {
            must("import " + imports.group(1), imports.group(1).equals("java.util.Arrays"));
        }
        must("no object is made but in a constructor or a field", Pattern.compile("\\bnew \\w+").matcher(bare).results()
            .filter(m -> !isBeginning(bare, m.start())).count() == 0);
    }

    /** A field's initialiser, or the constructor's lines of FirstIn, Court, Reader. */
    private static boolean isBeginning(String bare, int at) {
        String line = bare.substring(bare.lastIndexOf('\n', at) + 1, bare.indexOf('\n', at));
        boolean field = Pattern.compile("^ {8}(final )?[\\w\\[\\]]+ \\w+ = new ").matcher(line).find();
        boolean inConstructor = Pattern.compile("^ +[\\w\\[\\]]+ = new ").matcher(line).find();
        return field || inConstructor;
    }

    private static void library(String bare) {
        Matcher calls = Pattern.compile("\\b(Math|Integer|Long|Arrays|System|String|Character|Byte)\\.\\w+").matcher(bare);
        while (calls.find()) {
            must("library: " + calls.group(), LIBRARY.contains(calls.group()));
        }
    }

    private static void lengths(String source) {
        int start = 0;
        String[] lines = source.split("\n");
        for (int k = 0; k < lines.length; k++) {
            must("line " + (k + 1) + " is not too long", lines[k].length() <= 130);
            if (lines[k].matches(" {4}( {4})?[\\w<].*\\) \\{") && !lines[k].matches(".*\\b(if|for|while|switch|else)\\b.*")) {
                start = k;
            }
            if (lines[k].matches(" {4}( {4})?\\}")) {
                must("the method at line " + (start + 1) + " is short", k - start <= 60 || start == 0);
            }
        }
    }
}
