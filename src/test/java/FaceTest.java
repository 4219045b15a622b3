import java.io.IOException;
import java.lang.reflect.Constructor;
import java.lang.reflect.Field;
import java.lang.reflect.Method;
import java.lang.reflect.Modifier;
import java.nio.file.Files;
import java.nio.file.Path;
import java.util.ArrayList;
import java.util.Arrays;
import java.util.List;
import java.util.Map;
import java.util.Set;
import java.util.TreeMap;
import java.util.TreeSet;
import java.util.regex.Matcher;
import java.util.regex.Pattern;

/** The public face of the document, and those rules of LANGUAGE.md that can be read off the class or its source. */
public final class FaceTest {
    private static final Due DUE = new Due("FaceTest");
    private static final String[] FACE = {
        "int feed(int)", "int end(int)", "int text()", "int fault()", "int rule(int)", "int one(int,int)",
        "int owes(int,int)", "int meet(int,int)", "int alter(int,int,int)", "int bond(int,int,int)", "int dry(int)",
        "int lend(int,int,int)", "int pay(int,int,int)", "int days(int)", "int runs(int,int)", "int ahead(int,int,int)",
        "int rides(int)", "int net(int)", "int least()", "int ring(int)", "int clear()", "int give(int,int)",
        "int forgive(int)", "int kind(int,int)", "int late(int,int)", "int train(int,int)", "long luck(int,int,int,int)",
        "long mean(int,int,int)", "int see(int,int,boolean)", "int forget(int)", "int kinds(int)", "int earns(int)",
        "int ask(int,int)", "int drift(int,int,int)", "int keep(int)", "int back(int)", "int sheet(int,int,int)",
        "int lay(int,int,int)", "int read(int,int,int,int)", "int torn()", "int count(int)"};

    public static void main(String[] args) throws IOException {
        methods();
        fieldsAndConstructor();
        insideClasses();
        Path source = Path.of(System.getProperty("project.root", "."), "src/main/java/DebtRides.java");
        String code = bare(Files.readString(source));
        forbiddenWords(code);
        library(code);
        shortMethods(code);
        callsAtMostEightDeep(code);
        DUE.close();
    }

    private static String told(Method m) {
        StringBuilder s = new StringBuilder(m.getReturnType().getName()).append(' ').append(m.getName()).append('(');
        for (Class<?> c : m.getParameterTypes()) {
            s.append(s.charAt(s.length() - 1) == '(' ? "" : ",").append(c.getName());
        }
        return s.append(')').toString();
    }

    private static void methods() {
        Set<String> face = new TreeSet<>();
        Set<String> names = new TreeSet<>();
        for (Method m : DebtRides.class.getDeclaredMethods()) {
            if (Modifier.isPublic(m.getModifiers())) {
                face.add(told(m));
                names.add(m.getName());
                DUE.is(m + " is no static one", Modifier.isStatic(m.getModifiers()) ? 1 : 0, 0);
            }
        }
        DUE.same("the face", face.toString(), new TreeSet<>(Arrays.asList(FACE)).toString());
        for (Method m : DebtRides.class.getDeclaredMethods()) {
            if (!Modifier.isPublic(m.getModifiers())) {
                DUE.is(m + " is private", Modifier.isPrivate(m.getModifiers()) ? 1 : 0, 1);
                DUE.is(m + " bears a public name", names.contains(m.getName()) ? 1 : 0, 0);
            }
            DUE.is(m + " has seven parameters at most", Math.max(7, m.getParameterCount()), 7);
        }
        DUE.is("final", Modifier.isFinal(DebtRides.class.getModifiers()) ? 1 : 0, 1);
    }

    private static void fieldsAndConstructor() {
        Set<String> open = new TreeSet<>();
        int own = 0;
        for (Field f : DebtRides.class.getDeclaredFields()) {
            if (!Modifier.isPrivate(f.getModifiers())) {
                open.add(Modifier.toString(f.getModifiers()) + " " + f.getType() + " " + f.getName());
            }
            own += Modifier.isStatic(f.getModifiers()) ? 0 : 1;
        }
        DUE.same("open fields", open.toString(), "[public static final int BAD, public static final int FULL, "
                + "public static final int NONE, public static final int STATE]");
        DUE.is("some twenty fields", Math.max(20, own), 20);
        DUE.is("BAD", DebtRides.BAD, -1);
        DUE.is("STATE", DebtRides.STATE, -2);
        DUE.is("FULL", DebtRides.FULL, -3);
        DUE.is("NONE", DebtRides.NONE, -4);
        Constructor<?>[] all = DebtRides.class.getDeclaredConstructors();
        DUE.is("one constructor", all.length, 1);
        DUE.is("a public one without parameters", Modifier.isPublic(all[0].getModifiers()) ? all[0].getParameterCount() : -1, 0);
    }

    private static void insideClasses() {
        Class<?>[] inside = DebtRides.class.getDeclaredClasses();
        DUE.is("some twelve classes", Math.max(12, inside.length + 1), 12);
        for (Class<?> c : inside) {
            DUE.is(c + " is static", Modifier.isStatic(c.getModifiers()) ? 1 : 0, 1);
            DUE.is(c + " is not open", c.getModifiers() & (Modifier.PUBLIC | Modifier.PROTECTED), 0);
            int own = 0;
            for (Field f : c.getDeclaredFields()) {
                boolean fixed = Modifier.isStatic(f.getModifiers());
                own += fixed ? 0 : 1;
                DUE.is(f + ", if static, is final", fixed && !Modifier.isFinal(f.getModifiers()) ? 1 : 0, 0);
            }
            DUE.is(c + " has some twenty fields", Math.max(20, own), 20);
        }
    }

    /** The source without its comments, texts and signs. */
    private static String bare(String source) {
        return source.replaceAll("(?s)/\\*.*?\\*/", "").replaceAll("//[^\n]*", "")
                .replaceAll("\"[^\"\n]*\"", "TEXT").replaceAll("'[^'\n]*'", "0");
    }

    private static void forbiddenWords(String code) {
        for (String word : new String[] {"throw", "throws", "try", "catch", "finally", "synchronized", "assert", "package",
            "hashCode", "toString", "native", "volatile", "transient", "protected", "var"}) {
            DUE.is("the word " + word, Pattern.compile("\\b" + word + "\\b").matcher(code).find() ? 1 : 0, 0);
        }
        DUE.is("a lambda", code.contains("->") ? 1 : 0, 0);
        DUE.is("a method reference", code.contains("::") ? 1 : 0, 0);
        DUE.is("an endless loop", Pattern.compile("while \\(true\\)|for \\(;").matcher(code).find() ? 1 : 0, 0);
        DUE.is("joining of texts by +", Pattern.compile("TEXT *\\+|\\+ *TEXT").matcher(code).find() ? 1 : 0, 0);
    }

    private static void library(String code) {
        Set<String> used = new TreeSet<>();
        Matcher m = Pattern.compile("\\b(import [\\w.]+|(?:System|Arrays|Math|Integer|Long)\\.\\w+)").matcher(code);
        while (m.find()) {
            used.add(m.group(1));
        }
        used.removeAll(Set.of("import java.util.Arrays", "Arrays.fill", "System.arraycopy", "Math.max", "Math.min", "Integer.bitCount"));
        DUE.same("of the library", used.toString(), "[]");
    }

    private static void shortMethods(String code) {
        String[] lines = code.split("\n", -1);
        int start = -1;
        String close = "";
        for (int i = 0; i < lines.length; i++) {
            if (start < 0 && lines[i].matches("\\s+[^=;]*\\) \\{") && !lines[i].matches("\\s+(\\} )?(if|for|while|switch|else).*")) {
                start = i;
                close = lines[i].replaceAll("\\S.*", "") + "}";
            } else if (start >= 0 && lines[i].equals(close)) {
                DUE.is("lines of" + lines[start], Math.max(60, i - start + 1), 60);
                start = -1;
            }
        }
        DUE.is("each method ends", start, -1);
    }

    /** By names alone: methods of one name count as one, so the chain that is found may be longer than the true one. */
    private static void callsAtMostEightDeep(String code) {
        Map<String, String> bodies = new TreeMap<>();
        Matcher head = Pattern.compile("\n( +)(?!return|if|for|while|switch|\\}| )[\\w\\[\\] ]*?(\\w+)\\([^()]*\\) \\{\n").matcher(code);
        while (head.find()) {
            int end = code.indexOf("\n" + head.group(1) + "}", head.end() - 1);
            bodies.merge(head.group(2), code.substring(head.end(), Math.max(head.end(), end)), String::concat);
        }
        DUE.is("all of the face is found", bodies.keySet().containsAll(Arrays.stream(FACE)
                .map(f -> f.replaceAll(".* (\\w+)\\(.*", "$1")).toList()) ? 1 : 0, 1);
        Map<String, Set<String>> calls = new TreeMap<>();
        bodies.forEach((name, body) -> {
            Set<String> called = new TreeSet<>();
            Matcher call = Pattern.compile("(\\w+)\\(").matcher(body);
            while (call.find()) {
                if (bodies.containsKey(call.group(1))) {
                    called.add(call.group(1));
                }
            }
            calls.put(name, called);
        });
        for (String name : bodies.keySet()) {
            List<String> chain = longest(name, calls, new ArrayList<>(List.of(name)));
            DUE.is("eight at most: " + chain, Math.max(8, chain.size()), 8);
        }
    }

    private static List<String> longest(String name, Map<String, Set<String>> calls, List<String> open) {
        List<String> best = new ArrayList<>(open);
        for (String next : calls.get(name)) {
            if (!open.contains(next)) {
                open.add(next);
                List<String> chain = longest(next, calls, open);
                open.remove(open.size() - 1);
                best = chain.size() > best.size() ? chain : best;
            }
        }
        return best;
    }
}
