import java.io.IOException;
import java.lang.reflect.InvocationTargetException;
import java.lang.reflect.Method;
import java.nio.charset.StandardCharsets;
import java.nio.file.Files;
import java.nio.file.Path;
import java.util.Arrays;
import java.util.Comparator;
import java.util.HashSet;
import java.util.Set;

/** Runs the test of each sentence of the document that names a boundary, and looks that the sentence stands there. */
public final class EdgesTest {
    private static final int PROMISES = 37;

    private final Check check = new Check("EdgesTest");
    private final Set<String> told = new HashSet<>();
    private final int[] tests = new int[PROMISES + 1];
    private final String document;

    private EdgesTest(String document) {
        this.document = document;
    }

    public static void main(String[] args) throws Exception {
        EdgesTest t = new EdgesTest(onOneLine(read(Path.of("../shared/DOC.md"))));
        t.run(new PeopleEdges());
        t.run(new TextEdges());
        t.run(new PlanEdges());
        t.run(new CallEdges());
        t.run(new AnswerEdges());
        t.everyPromiseHasOne();
        t.check.end();
    }

    /** Without the document the tests run all the same, for the answers that are due stand in them. */
    private static String read(Path file) throws IOException {
        if (!Files.isReadable(file)) {
            System.out.println("EdgesTest: no " + file + ", so whether the sentences stand there is not looked at");
            return "";
        }
        return Files.readString(file, StandardCharsets.UTF_8);
    }

    private static String onOneLine(String text) {
        return text.replaceAll("\\s+", " ");
    }

    private void run(Edges edges) throws IllegalAccessException {
        edges.check = check;
        Method[] methods = edges.getClass().getDeclaredMethods();
        Arrays.sort(methods, Comparator.comparing(Method::getName));
        for (Method method : methods) {
            Sentence sentence = method.getAnnotation(Sentence.class);
            if (sentence != null) {
                runOne(edges, method, sentence);
            }
        }
    }

    private void runOne(Edges edges, Method method, Sentence sentence) throws IllegalAccessException {
        check.about((sentence.promise() == 0 ? "Terms" : "Promise " + sentence.promise())
            + ", \"" + sentence.value() + "\", " + method.getName());
        tests[sentence.promise()]++;
        check.due("a test of its own", told.add(sentence.promise() + sentence.value()), true);
        if (!document.isEmpty()) {
            check.due("stands in the document", section(sentence.promise()).contains(sentence.value()), true);
        }
        try {
            method.invoke(edges);
        } catch (InvocationTargetException e) {
            check.fail("threw " + e.getCause());
        }
    }

    private String section(int promise) {
        int from = promise == 0 ? 0 : document.indexOf("## Promise " + promise + ":");
        int to = document.indexOf(promise == PROMISES ? "## Not promised" : "## Promise " + (promise + 1) + ":");
        return document.substring(from, to);
    }

    private void everyPromiseHasOne() {
        check.about("all");
        for (int promise = 1; promise <= PROMISES; promise++) {
            check.due("promise " + promise + " has a test", tests[promise] > 0, true);
        }
    }
}
