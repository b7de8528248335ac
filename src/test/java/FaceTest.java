import java.io.IOException;
import java.lang.reflect.Constructor;
import java.lang.reflect.Field;
import java.lang.reflect.Method;
import java.lang.reflect.Modifier;
import java.nio.file.Files;
import java.nio.file.Path;
import java.util.ArrayList;
import java.util.List;
import java.util.TreeSet;
import java.util.regex.Matcher;
import java.util.regex.Pattern;

/** The public face, just as the document has it; the rules of LANGUAGE.md that can be seen from outside; the room. */
public final class FaceTest {
    private static final Checks CHECKS = new Checks();
    private static final Path CLASS = Path.of("src/main/java/TearPost.java");
    private static final String[] METHODS = {
        "road 2", "mow 0", "reader 2", "tire 2", "of 2", "letter 5", "at 2", "terms 2", "feed 5", "end 1", "row 0",
        "blots 0", "law 0", "orders 0", "fault 0", "stopped 0", "force 1", "asks 3", "rests 1", "hand 2", "onward 2",
        "pass 0", "undo 0", "order 2", "game 2", "ledger 2", "joked 1", "inside 3", "way 1", "cut 2", "bags 2",
        "season 2", "drawn 2", "image 1", "back 1", "count 1", "status 0"};

    public static void main(String[] args) throws IOException {
        constants();
        face();
        faceOfTheDocument();
        source();
        anyArguments();
        room();
        CHECKS.close("FaceTest");
    }

    private static void so(String what, boolean is) {
        CHECKS.due(what, 1, is ? 1 : 0);
    }

    private static void constants() {
        CHECKS.due("NONE", -1, TearPost.NONE);
        CHECKS.due("NOTHING", -1000000, TearPost.NOTHING);
    }

    private static void face() {
        TreeSet<String> open = new TreeSet<>();
        TreeSet<String> hidden = new TreeSet<>();
        for (Method m : TearPost.class.getDeclaredMethods()) {
            if (Modifier.isPrivate(m.getModifiers())) {
                hidden.add(m.getName());
                continue;
            }
            open.add(m.getName() + " " + m.getParameterCount());
            so(m + " is public, of ints alone", Modifier.isPublic(m.getModifiers()) && m.getReturnType() == int.class
                    && List.of(m.getParameterTypes()).stream().allMatch(t -> t == int.class));
        }
        so("the methods " + open, open.equals(new TreeSet<>(List.of(METHODS))));
        for (String name : METHODS) {
            so("no private method is called " + name, !hidden.contains(name.split(" ")[0]));
        }
        for (Field f : TearPost.class.getDeclaredFields()) {
            boolean told = f.getName().equals("NONE") || f.getName().equals("NOTHING");
            so(f + " is seen only if the document tells of it",
                    told ? Modifier.isPublic(f.getModifiers()) : Modifier.isPrivate(f.getModifiers()));
        }
        Constructor<?>[] constructors = TearPost.class.getDeclaredConstructors();
        so("one constructor, public, without parameters", constructors.length == 1
                && constructors[0].getParameterCount() == 0 && Modifier.isPublic(constructors[0].getModifiers()));
        so("the class is final", Modifier.isFinal(TearPost.class.getModifiers()));
        for (Class<?> inner : TearPost.class.getDeclaredClasses()) {
            so(inner + " is static", Modifier.isStatic(inner.getModifiers()));
        }
    }

    /** Each line of the document's face stands in the class as it is told, with the names of its parameters. */
    private static void faceOfTheDocument() throws IOException {
        Path document = Path.of("../shared/DOC.md");
        if (!Files.exists(document)) {
            System.out.println("there is no " + document + ": its face is not looked up");
            return;
        }
        List<String> source = Files.readAllLines(CLASS);
        String face = Files.readString(document).split("## The public face")[1].split("```(java)?")[1];
        int members = 0;
        for (String line : face.split("\n")) {
            String told = line.replace(");", ") {");
            boolean stands = line.isBlank() || line.equals("}") || source.contains(told);
            so("'" + line + "' stands in the class", stands);
            members += line.startsWith("    public ") ? 1 : 0;
        }
        CHECKS.due("how many members the document's face has", METHODS.length + 3, members);
    }

    private static void source() throws IOException {
        String text = Files.readString(CLASS);
        String code = text.replaceAll("(?s)/\\*.*?\\*/", "").replaceAll("//[^\n]*", "").replaceAll("\"[^\"]*\"", "\"\"");
        String[] ruledOut = {"\\bthrow\\b", "\\btry\\b", "\\bcatch\\b", "\\bsynchronized\\b", "\\bassert\\b", "->", "::",
            "\\w+Exact\\b", "\\.equals\\b", "\\bSystem\\.(?!arraycopy)", "_VALUE\\b", "\\bRandom\\b", "\\bThread\\b",
            "\\bwhile\\s*\\(\\s*true", "\"\\s*\\+|\\+\\s*\"", "\\bObject\\b", "\\bvar\\b"};
        for (String wrong : ruledOut) {
            so("nothing like " + wrong + " in the class", !Pattern.compile(wrong).matcher(code).find());
        }
        so("signs 1 to 127 alone", text.chars().allMatch(c -> c > 0 && c < 128));
        Matcher imports = Pattern.compile("import ([\\w.]+);").matcher(code);
        while (imports.find()) {
            so("import of " + imports.group(1), imports.group(1).equals("java.util.Arrays"));
        }
        methodsAreShort(text.split("\n"));
    }

    private static void methodsAreShort(String[] lines) {
        Pattern head = Pattern.compile("^( +)(?:private |public |static |final )*[\\w\\[\\]]+ \\w+\\(([^)]*)\\) \\{$");
        for (int k = 0; k < lines.length; k++) {
            Matcher m = head.matcher(lines[k]);
            if (!m.find() || lines[k].trim().startsWith("else")) {
                continue;
            }
            int stop = k;
            while (!lines[stop].equals(m.group(1) + "}")) {
                stop++;
            }
            so(lines[k].trim() + " is short", stop - k < 60);
            so(lines[k].trim() + " has at most seven parameters", m.group(2).split(",").length <= 7);
        }
    }

    /** No call throws, whatever it is given; a post with all sorts of things in it, and an empty one. */
    private static void anyArguments() {
        int[] numbers = {Integer.MIN_VALUE, -1000001, -2, -1, 0, 1, 2, 7, 8, 12, 31, 32, 63, 64, 400, 1000, 1000001,
            Integer.MAX_VALUE};
        for (Method m : TearPost.class.getMethods()) {
            if (m.getDeclaringClass() != TearPost.class) {
                continue;
            }
            int thrown = 0;
            for (int a : numbers) {
                for (int b : numbers) {
                    thrown += throwsBy(m, new TearPost(), a, b) + throwsBy(m, full(), a, b);
                }
            }
            CHECKS.due("how often " + m.getName() + " threw", 0, thrown);
        }
    }

    private static int throwsBy(Method m, TearPost x, int a, int b) {
        List<Object> args = new ArrayList<>();
        for (int k = 0; k < m.getParameterCount(); k++) {
            args.add(k % 2 == 0 ? a : b);
        }
        try {
            m.invoke(x, args.toArray());
            return 0;
        } catch (ReflectiveOperationException e) {
            e.printStackTrace(System.out);
            return 1;
        }
    }

    private static final String DEAR_LAW = "weeps grief*soft+had-tired%7 if not (tired=3 or tired=4);"
            + "tires [tired*7+grief*13+1]%97;rests [tired*3+day]%5;laughs if joke>grief and tired%2=0;bars if tired=998";

    private static TearPost full() {
        TearPost x = new TearPost();
        for (int k = 0; k < 12; k++) {
            x.road(k % 7, k % 7 + 1);
        }
        for (int k = 0; k < 8; k++) {
            x.reader(9, k);
        }
        for (int k = 0; k < 12; k++) {
            x.letter(30 - k, k, 1 + k % 9, k < 8 ? 7 : k - 8, k % 2);
        }
        Checks.rule(x, DEAR_LAW);
        return x;
    }

    /** What the dearest calls make, many times over, fits into the room that all calls of a run share. */
    private static void room() {
        com.sun.management.ThreadMXBean bean =
                (com.sun.management.ThreadMXBean) java.lang.management.ManagementFactory.getThreadMXBean();
        TearPost x = full();
        dearCalls(x);
        long before = bean.getThreadAllocatedBytes(Thread.currentThread().getId());
        for (int n = 0; n < 20; n++) {
            dearCalls(x);
        }
        long made = bean.getThreadAllocatedBytes(Thread.currentThread().getId()) - before;
        so("what 20 rounds of dear calls make is small: " + made + " bytes", made < 4000);
    }

    private static void dearCalls(TearPost x) {
        x.order(7, -1);
        x.order(7, 7);
        x.game(7, 0);
        x.joked(-1);
        x.joked(100);
        x.cut(7, 1);
        x.bags(10, 1);
        x.season(99, 60);
        x.inside(0, 3, -1);
        x.image(0);
        x.back(0);
        x.hand(0, 1);
        x.pass();
        x.undo();
        x.undo();
    }
}
