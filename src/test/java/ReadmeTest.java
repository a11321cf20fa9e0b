import java.io.IOException;
import java.nio.file.Files;
import java.nio.file.Path;
import java.util.ArrayList;
import java.util.List;

/** README.md: its example's calls, in their order, and what it says of them. */
public final class ReadmeTest {
    private static final Path README = Path.of("README.md");
    private static final Path OWN_SOURCE = Path.of("src/test/java/ReadmeTest.java");

    /** The calls stand here as they stand there; calledHere() tells if that is no longer so. */
    private static void example() {
        HashPages map = new HashPages();
        Check.same("PAGES of a new object", map.look(0), 64);
        Check.same("LOG of a new object", map.look(1), 8);
        map.format(20, 4);
        Check.same("PAGES", map.look(0), 20);
        Check.same("LOG", map.look(1), 4);
        map.feed(1, 'k', 0);
        int fed = map.feed(3, 0x656E6FL, 0);
        Check.same("bytes of the tape", fed, 4);
        int status = map.put(1);
        Check.same("put", status, HashPages.DONE);
        map.feed(1, 'k', 0);
        int size = map.get();
        Check.same("get", size, 3);
        int letter = map.answer(0);
        Check.same("answer(0)", letter, 'o');
        Check.same("answer(1)", map.answer(1), 'n');
        Check.same("answer(2)", map.answer(2), 'e');
        Check.same("answer(3)", map.answer(3), HashPages.NONE);
        map.power(0);
        map.feed(1, 'k', 0);
        status = map.remove();
        Check.same("remove without the power", status, HashPages.DOWN);
        status = map.recover(HashPages.NONE);
        Check.same("recover", status, HashPages.DONE);
        Check.same("WRITES that the power allows", map.look(8), HashPages.NONE);
        int page = map.entry(0);
        Check.same("entry", page, 7);
        int kind = map.kind(page);
        Check.same("kind", kind, 5);
        int records = map.bucket(page, 1);
        Check.same("RECORDS", records, 1);
        map.feed(1, 'k', 0);
        status = map.remove();
        Check.same("remove", status, HashPages.DONE);
        map.feed(1, 'k', 0);
        size = map.get();
        Check.same("get behind remove", size, HashPages.NONE);
        int writes = map.look(6);
        Check.same("WRITES", writes, 2);
    }

    /** The statements of a file's lines, without what is behind their semicolon. */
    private static List<String> statements(List<String> lines) {
        List<String> statements = new ArrayList<>();
        for (String line : lines) {
            int end = line.indexOf(';');
            if (end >= 0) {
                statements.add(line.substring(0, end).trim());
            }
        }
        return statements;
    }

    private static List<String> exampleLines() throws IOException {
        List<String> lines = Files.readAllLines(README);
        int start = lines.indexOf("```java") + 1;
        int length = lines.subList(start, lines.size()).indexOf("```");
        Check.holds("README.md has an example", start > 0 && length > 0);
        return start > 0 && length > 0 ? lines.subList(start, start + length) : List.of();
    }

    private static void calledHere() throws IOException {
        List<String> here = statements(Files.readAllLines(OWN_SOURCE));
        int from = 0;
        for (String statement : statements(exampleLines())) {
            int at = here.subList(from, here.size()).indexOf(statement);
            Check.holds("'" + statement + "' of README.md is called here, in its order", at >= 0);
            from += Math.max(at + 1, 0);
        }
    }

    /** README.md names each test of the project, and no other. */
    private static void testsNamed() throws IOException {
        String text = Files.readString(README);
        List<String> names = new ArrayList<>();
        try (var files = Files.list(OWN_SOURCE.getParent())) {
            files.forEach(file -> names.add(file.getFileName().toString().replace(".java", "")));
        }
        for (String name : names) {
            Check.holds("README.md names " + name, !name.endsWith("Test") || text.contains("`" + name + "`"));
        }
        for (String word : text.split("[^A-Za-z]+")) {
            Check.holds(word + " of README.md is there", !word.matches(".+Test") || names.contains(word));
        }
    }

    public static void main(String[] args) throws IOException {
        example();
        calledHere();
        testsNamed();
        Check.end();
    }
}
