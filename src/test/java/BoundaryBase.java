import java.util.LinkedHashMap;
import java.util.LinkedHashSet;
import java.util.Map;
import java.util.Set;
import java.util.function.Predicate;
import java.util.function.Supplier;

/** Tests that go through the document sentence by sentence: what follows a call of sentence(..) is its test. */
abstract class BoundaryBase extends TestBase {
    /** A call with one argument that varies. */
    interface Call {
        void on(LendingDesk x, int argument);
    }

    private static final Document DOCUMENT = Document.read();
    private static final Map<String, Set<String>> NAMED = new LinkedHashMap<>();
    private static String section = "";
    private static String sentence = "";
    private static int checksBefore = 0;

    static void section(String name) {
        endSentence();
        section = name;
        NAMED.computeIfAbsent(name, s -> new LinkedHashSet<>());
    }

    static void sentence(String text) {
        endSentence();
        C.yes("the document says under " + section + ": " + text, DOCUMENT.holds(section, text));
        NAMED.get(section).add(text);
        sentence = text;
        checksBefore = C.count();
        C.at("[" + section + ": " + text + "]\n    ");
    }

    private static void endSentence() {
        if (!sentence.isEmpty()) {
            C.yes("there is a check", C.count() > checksBefore);
        }
        sentence = "";
        C.at("");
    }

    /** Every sentence with a boundary in these sections must have been named. */
    static void finishSections(Predicate<String> wanted) {
        endSentence();
        for (String name : DOCUMENT.sectionNames()) {
            if (wanted.test(name)) {
                Set<String> left = DOCUMENT.toBeTested(name);
                left.removeAll(NAMED.getOrDefault(name, Set.of()));
                C.same("the sentences without a test under " + name, left, Set.of());
            }
        }
        C.finish();
    }

    static void finishPromises(int first, int last) {
        finishSections(name -> {
            int number = name.startsWith("Promise ") ? Integer.parseInt(name.substring(8)) : -1;
            return number >= first && number <= last;
        });
    }

    // ---- one argument at its edges, each call on an object of its own ----

    static void takes(String what, Supplier<LendingDesk> start, Call call, int... arguments) {
        for (int a : arguments) {
            LendingDesk x = start.get();
            C.returns(what + " with " + a, () -> call.on(x, a));
        }
    }

    static void refusesEach(Class<? extends RuntimeException> due, String what, Supplier<LendingDesk> start, Call call,
            int... arguments) {
        for (int a : arguments) {
            refuses(start.get(), due, what + " with " + a, y -> call.on(y, a));
        }
    }

    /** The ends of the range and what is next to them inside are taken; one beyond on each side is refused. */
    static void range(String what, int least, int most, Supplier<LendingDesk> start, Call call) {
        takes(what, start, call, least, least + 1, most - 1, most);
        refusesEach(Checks.ARGUMENT, what, start, call, least - 1, most + 1, Integer.MIN_VALUE, Integer.MAX_VALUE);
    }

    static void kinds(String what, Supplier<LendingDesk> start, Call call) {
        takes(what + " of kind", start, call, 0, 1, 2, 3);
        refusesEach(Checks.INDEX, what + " of kind", start, call, -1, 4, Integer.MIN_VALUE, Integer.MAX_VALUE);
    }

    static void borrowers(String what, Supplier<LendingDesk> start, Call call) {
        int count = start.get().borrowerCount();
        for (int b = 0; b < count; b++) {
            takes(what + " by borrower", start, call, b);
        }
        refusesEach(Checks.INDEX, what + " by borrower", start, call, -1, count, 6, Integer.MIN_VALUE,
                Integer.MAX_VALUE);
        refusesEach(Checks.INDEX, what + " without borrowers, by", LendingDesk::new, call, 0);
    }

    /** Of someLoans(), 1 and 3 exist; 0 is repaid, 2 defaulted, 4 is the next. */
    static void ids(String what, Call call) {
        takes(what + " of loan", TestBase::someLoans, call, 1, 3);
        refusesEach(Checks.MISSING, what + " of loan", TestBase::someLoans, call, -1, 0, 2, 4, Integer.MIN_VALUE,
                Integer.MAX_VALUE);
        refusesEach(Checks.MISSING, what + " without loans, of", LendingDesk::new, call, 0);
    }
}
