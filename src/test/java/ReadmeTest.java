import java.nio.file.Files;
import java.nio.file.Path;

/** The examples of README.md: that they stand there as they do here, and answer what they say. */
public final class ReadmeTest {
    private static String readme = "";

    private ReadmeTest() {
    }

    private static void says(String line) {
        Due.equal("README.md says: " + line, readme.contains(line) ? 1 : 0, 1);
    }

    private static void answers(String call, int got, String answer, int want) {
        String line = readme.lines().filter(l -> l.contains(call + ";")).findFirst().orElse("");
        Due.equal("README.md says what it answers: " + call, line.contains(answer) ? 1 : 0, 1);
        Due.equal(call, got, want);
    }

    private static DeficitCircles calls() {
        DeficitCircles server = new DeficitCircles();
        int group = server.addGroup(10);
        answers("int group = server.addGroup(10)", group, "// 0:", 0);
        int slow = server.addClass(group, 4, 100, 1);
        answers("int slow = server.addClass(group, 4, 100, 1)", slow, "// 0:", 0);
        Due.equal("the quantum of the class", server.classOf(slow, 1), 4);
        Due.equal("its bucket", server.classOf(slow, 5), 100);
        int fast = server.addClass(group, 8, 100, 1);
        answers("int fast = server.addClass(group, 8, 100, 1)", fast, "// 1", 1);
        answers("int job = server.add(fast, 7)", server.add(fast, 7), "// 0:", 0);
        answers("server.add(slow, 5)", server.add(slow, 5), "// 1", 1);
        answers("server.served(0)", server.served(0), "first: 0", 0);
        answers("server.pass(20)", server.pass(20), "answers 2", 2);
        says("server.undo();");
        Due.equal("undo()", server.undo(), 3);
        Due.equal("as it was before pass()", server.count(0) + server.count(7), 0);
        Due.equal("both wait again", server.count(4), 2);
        return server;
    }

    private static void text(DeficitCircles server) {
        says("for (char sign : \"0:5;1:12;1:7x\".toCharArray()) {");
        int length = 0;
        for (char sign : "0:5;1:12;1:7x".toCharArray()) {
            length = server.type(sign);
        }
        says("server.type(sign);                            // the length then, 13 at last");
        Due.equal("the length then", length, 13);
        answers("server.readJobs()", server.readJobs(), "// -112", -112);
        Due.equal("none of them comes", server.count(3), 2);
    }

    public static void main(String[] args) throws Exception {
        readme = Files.readString(Path.of("README.md"));
        text(calls());
        Due.finish("ReadmeTest");
    }
}
