import java.io.IOException;
import java.lang.reflect.Method;
import java.lang.reflect.Modifier;
import java.nio.charset.StandardCharsets;
import java.nio.file.Files;
import java.nio.file.Path;
import java.util.ArrayList;
import java.util.Comparator;
import java.util.List;
import java.util.Map;
import java.util.TreeMap;
import java.util.regex.Matcher;
import java.util.regex.Pattern;
import java.util.stream.Stream;

/** What stands in README.md is so: its commands, its example, its table of calls, and what it says of refusals. */
public final class ReadmeTest {
    private static final String OWN_COMMAND = ".ci/run\n";
    private static final int COMMAND_BLOCKS = 4;
    private static final int WRONG_TEXTS = 14;
    private static final Pattern BLOCK = Pattern.compile("```(\\w+)\n(.*?)```\n", Pattern.DOTALL);
    private static final Pattern CALL = Pattern.compile("`(\\w+)\\(([^)]*)\\)`");
    private static final Pattern EXCEPTION = Pattern.compile("\\w+Exception");

    private final Check check = new Check("ReadmeTest");
    private final String page;

    private ReadmeTest(String page) {
        this.page = page;
    }

    public static void main(String[] args) throws Exception {
        ReadmeTest t = new ReadmeTest(read(Path.of("README.md")));
        t.example();
        t.commands();
        t.calls();
        t.wrongTexts();
        t.townRefuses();
        t.callIsWrong();
        t.lineIsRefused();
        t.faultStays();
        t.check.end();
    }

    private static String read(Path file) throws IOException {
        return Files.readString(file, StandardCharsets.UTF_8);
    }

    private List<String> blocks(String kind) {
        List<String> found = new ArrayList<>();
        Matcher m = BLOCK.matcher(page);
        while (m.find()) {
            if (m.group(1).equals(kind)) {
                found.add(m.group(2));
            }
        }
        return found;
    }

    /** The cells of each row of a table that begins so. */
    private List<String[]> rows(String begin) {
        List<String[]> found = new ArrayList<>();
        for (String line : page.split("\n")) {
            if (line.startsWith(begin)) {
                String[] cells = line.substring(1).split("\\|");
                for (int k = 0; k < cells.length; k++) {
                    cells[k] = cells[k].trim();
                }
                found.add(cells);
            }
        }
        return found;
    }

    private void example() throws IOException {
        check.about("the example");
        List<String> told = blocks("java");
        check.due("java blocks", told.size(), 1);
        same("stands as it is", told.get(0), read(Path.of("src/example/java/Example.java")));
    }

    private void same(String what, String got, String want) {
        if (!got.equals(want)) {
            check.fail(what + ": " + got + "due is: " + want);
        }
    }

    /** In a copy, as on a clean checkout. */
    private void commands() throws IOException, InterruptedException {
        check.about("the commands");
        Path room = Files.createTempDirectory("readme");
        try {
            Path copy = room.resolve("main");
            copyTree(Path.of("src"), copy.resolve("src"));
            Files.createSymbolicLink(room.resolve("shared"), Path.of("../shared").toRealPath());
            List<String> blocks = blocks("sh");
            check.due("sh blocks", blocks.size(), COMMAND_BLOCKS);
            for (int k = 0; k < blocks.size(); k++) {
                if (!blocks.get(k).equals(OWN_COMMAND)) {
                    String printed = run(copy, blocks.get(k));
                    if (k == 0) {
                        same("what the example prints", printed, blocks("text").get(0));
                    }
                }
            }
        } finally {
            deleteTree(room);
        }
        // it is what runs this test, so it is not run here once more
        check.due(".ci/run is told", blocks("sh").contains(OWN_COMMAND), true);
        check.due(".ci/run can be run", Files.isExecutable(Path.of(".ci/run")), true);
        check.due("out/ is left out of git", read(Path.of(".gitignore")).contains("out/\n"), true);
    }

    private String run(Path where, String commands) throws IOException, InterruptedException {
        Process process = new ProcessBuilder("sh", "-ec", commands)
            .directory(where.toFile()).redirectErrorStream(true).start();
        String printed = new String(process.getInputStream().readAllBytes(), StandardCharsets.UTF_8);
        int code = process.waitFor();
        if (code != 0) {
            check.fail(commands + "ended with " + code + ": " + printed);
        }
        return printed;
    }

    private static void copyTree(Path from, Path to) throws IOException {
        for (Path file : tree(from)) {
            Path copy = to.resolve(from.relativize(file));
            Files.createDirectories(copy.getParent());
            Files.copy(file, copy);
        }
    }

    private static void deleteTree(Path from) throws IOException {
        List<Path> files = tree(from);
        files.sort(Comparator.reverseOrder());
        for (Path file : files) {
            Files.delete(file);
        }
    }

    private static List<Path> tree(Path from) throws IOException {
        try (Stream<Path> walk = Files.walk(from)) {
            return new ArrayList<>(walk.toList());
        }
    }

    /** Each call of the face has one row, with its parameters and its exceptions in their order. */
    private void calls() {
        check.about("the calls");
        Map<String, Method> face = new TreeMap<>();
        for (Method method : FavourTown.class.getDeclaredMethods()) {
            if (Modifier.isPublic(method.getModifiers())) {
                face.put(method.getName(), method);
            }
        }
        for (String[] row : rows("| `")) {
            Matcher m = CALL.matcher(row[0]);
            if (m.matches()) {
                Method method = face.remove(m.group(1));
                if (method == null) {
                    check.fail(row[0] + " is no call, or told twice");
                } else {
                    call(method, m.group(2), row);
                }
            }
        }
        if (!face.isEmpty()) {
            check.fail("not told: " + face.keySet());
        }
    }

    private void call(Method method, String parameters, String[] row) {
        String name = method.getName();
        check.due(name + ", its parameters", parameters.isEmpty() ? 0 : parameters.split(", ").length,
            method.getParameterCount());
        StringBuilder thrown = new StringBuilder();
        for (Class<?> type : method.getExceptionTypes()) {
            thrown.append(type.getSimpleName()).append('\n');
        }
        StringBuilder told = new StringBuilder();
        Matcher m = EXCEPTION.matcher(row.length > 3 ? row[3] : "");
        while (m.find()) {
            told.append(m.group()).append('\n');
        }
        same(name + ", its exceptions", told.toString(), thrown.toString());
        boolean saysFalse = row.length > 2 && row[2].startsWith("`false`:");
        boolean saysNone = row.length > 2 && row[2].startsWith("`NONE`:");
        check.due(name + ", false", saysFalse, method.getReturnType() == boolean.class);
        check.due(name + ", NONE", saysNone && method.getReturnType() != int.class, false);
    }

    private void wrongTexts() {
        check.about("the wrong texts");
        int count = 0;
        for (String by : new String[] {"town", "temper"}) {
            for (String[] row : rows("| `" + by + "` |")) {
                String text = row[1].substring(1, row[1].length() - 1);
                int fault = Integer.parseInt(row[2]);
                if (by.equals("town")) {
                    FavourTown x = new FavourTown();
                    check.wrongTown(x, text, fault);
                    same("what stays of " + text, Edges.seen(x), Edges.seen(new FavourTown()));
                    check.due("the tape is empty behind " + text, Edges.tapeIsEmpty(x), true);
                } else {
                    check.wrongTemper(text, fault);
                }
                count++;
            }
        }
        check.due("wrong texts", count, WRONG_TEXTS);
    }

    /** Two people, the second one's limit low; favour 0 is gone, favour 1 is held by 1 and may go nowhere. */
    private static FavourTown small() {
        FavourTown x = Check.told("person 20; person 1; person 9; law 0; give 0 to 1 3; give 0 to 1 4; call 0",
            "need 1 of 2 2");
        Check.ring(x, "ab");
        x.feed(0, 0, 0, 0, 0);
        return x;
    }

    private void townRefuses() {
        check.about("what the town refuses");
        FavourTown x = small();
        String before = Edges.seen(x);
        check.due("give", x.give(1, 2, 2, 0, true), FavourTown.NONE);
        check.due("pass", x.pass(1, 2), FavourTown.NONE);
        check.due("call", x.call(0), FavourTown.NONE);
        check.due("meet", x.meet(0), FavourTown.NONE);
        check.due("end", x.end(21), false);
        check.due("back", x.back(), false);
        same("what is seen", Edges.seen(x), before);
        check.due("the tape stays", x.feed(0, 0, 0, 0, 0), 40);
        for (int bytes = 60; bytes <= 400; bytes += 20) {
            check.due("feed", x.feed(0, 0, 0, 0, 0), bytes);
        }
        check.due("feed beyond 400", x.feed(0, 0, 0, 0, 0), FavourTown.NONE);
        check.due("the tape still has them", x.end(400), true);
        check.due("the reason: gone", x.look(0, 1), FavourTown.NONE);
        check.due("the reason: hands", x.look(1, 3) >= x.count(8), true);
        check.due("the reason: it would take it", x.takes(2, 1), true);
        check.due("the reason: debt", x.debt(1), 0);
    }

    private void callIsWrong() {
        check.about("a call that is wrong");
        keepsAll("has", x -> x.has(0, 0), 20);
        keepsAll("give", x -> x.give(0, 0, 1, 0, false), 20);
        keepsAll("pass", x -> x.pass(1, 1), 20);
        keepsAll("days", x -> x.days(0), 20);
        keepsAll("meet", x -> x.meet(1), 20);
        keepsAll("play", x -> x.play(1, 61, 0), 20);
        keepsAll("town", x -> x.town(), 0);
        keepsAll("temper", x -> x.temper(), 0);
        keepsAll("ring", x -> x.ring(), 0);
        keepsAll("fits", x -> x.fits(2), 0);
    }

    /** The call throws, changes nothing that is seen, and leaves so many bytes on the tape. */
    private void keepsAll(String name, Edges.On call, int bytes) {
        FavourTown x = small();
        String before = Edges.seen(x);
        String answer = Check.answer(() -> call.run(x));
        check.due(name + " throws", answer.startsWith("throws"), true);
        same(name + ", what is seen", Edges.seen(x), before);
        boolean readsText = name.equals("town") || name.equals("temper");
        check.due(name + ", fault()", x.fault(), readsText ? 0 : FavourTown.NONE);
        check.due(name + ", the tape", x.feed(0, 0, 0, 0, 0), bytes + 20);
    }

    private void lineIsRefused() {
        check.about("a line that is refused");
        FavourTown x = new FavourTown();
        check.due("town", Check.town(x, "person 5; person 5; give 0 to 1 6; give 0 to 1 5; pass 0 to 1; call 0; call 0;"
            + "days 2"), 1);
        check.due("fault()", x.fault(), FavourTown.NONE);
        check.due("favours", x.count(3), 1);
        check.due("the day", x.count(7), 2);
    }

    private void faultStays() {
        check.about("fault()");
        FavourTown x = Check.told("person 5; person 5; give 0 to 1 5");
        check.wrongTown(x, "law 11", 4);
        check.due("behind ring", Check.ring(x, "ab") * 10 + x.fault(), 4);
        check.due("behind fits", Check.fits(x, 0, "ab") + x.fault(), 3);
        check.rightTown(x, "law 10");
        for (int k = x.count(1); k < 10; k++) {
            check.rightTown(x, "");
        }
        check.wrongTown(x, "law 11", 4);
        check.fails("an 11th text", UnsupportedOperationException.class, () -> Check.town(x, "law 9"));
        check.due("behind it", x.fault(), FavourTown.NONE);
        check.due("the law", x.count(8), 10);
    }
}
