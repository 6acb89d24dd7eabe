import java.io.IOException;
import java.lang.reflect.Method;
import java.lang.reflect.Modifier;
import java.nio.file.Files;
import java.nio.file.Path;
import java.util.ArrayList;
import java.util.List;

/** What README.md says of the use of the class holds: its example, its typed program, and its table of methods. */
public final class ReadmeTest extends TestBase {
    private ReadmeTest() {
    }

    public static void main(String[] args) throws IOException {
        example();
        String readme = Files.readString(Path.of("README.md"));
        exampleIsTheReadmes(readme);
        typedProgram(readme);
        table(readme);
        C.finish();
    }

    private static void example() {
        LendingDesk desk = new LendingDesk();
        int anna = desk.addBorrower(50);
        desk.bring(anna, 0, 30);
        int loan = desk.lend(anna, 0, 30, 200, 10);
        desk.pass(1);
        int owed = desk.debt(loan);
        int left = desk.repay(loan, 100);
        int undoable = desk.undo();
        int length = desk.formatLoan(loan);
        char first = desk.lineChar(0);
        C.same("debt", owed, 202);
        C.same("repay", left, 102);
        C.same("undo", undoable, 4);
        C.same("formatLoan", length, 24);
        C.same("the line", Picture.lineOf(desk), "L0 b0 200+2 @10 d10 0x30");
        C.same("lineChar", first, 'L');
    }

    /** Every line of the README's example stands in example(), in the same order. */
    private static void exampleIsTheReadmes(String readme) throws IOException {
        List<String> own = new ArrayList<>();
        Files.readAllLines(Path.of("src/test/java/ReadmeTest.java")).forEach(line -> own.add(line.trim()));
        int from = own.indexOf("private static void example() {");
        String[] parts = readme.split("(?m)^```(java)?$");
        C.same("the code blocks of README.md", parts.length, 3);
        for (String line : parts[1].trim().split("\n")) {
            from++;
            C.same("a line of the test", own.get(from), line.replaceFirst("//.*", "").trim());
        }
    }

    private static void typedProgram(String readme) {
        String program = "borrower 9;bring 0 2 20;days 3";
        C.yes("README.md shows " + program, readme.contains("`" + program + "`"));
        C.same("run", runOf(new LendingDesk(), program), 3);
    }

    private static void table(String readme) {
        for (Method method : LendingDesk.class.getDeclaredMethods()) {
            if (Modifier.isPublic(method.getModifiers())) {
                C.yes("README.md names " + method.getName(), readme.contains("`" + method.getName() + "`"));
            }
        }
    }
}
