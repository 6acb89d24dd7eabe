/** Promises 56 to 65, sentence by sentence. */
public final class BoundaryProgramsTest extends BoundaryBase {
    private static final String FULL = "days 001;days 001;days 01;days 1;days 1;days 1;days 1;days 1";

    private BoundaryProgramsTest() {
    }

    public static void main(String[] args) {
        formatLoan();
        lineChar();
        append();
        run();
        runFails();
        errorPosition();
        failedCommand();
        undoableCount();
        undo();
        save();
        restore();
        finishPromises(56, 65);
    }

    // ---- promises 56 to 58 ----

    private static void formatLoan() {
        section("Promise 56");
        sentence("Formats a loan into the line, replacing the previous line: \"L\", the id, \" b\", the borrower, \" \","
                + " the principal, \"+\", the accrued interest, \" @\", the rate, \" d\" and the due day; then, for each"
                + " kind of which the collateral has units, in the order of kinds, \" \", the kind, \"x\" and the units.");
        LendingDesk x = someLoans();
        x.formatLoan(3);
        C.same("a line", Picture.lineOf(x), "L3 b0 30+2 @20 d40 0x25 1x5 2x5 3x5");
        x.release(1, 0, 5);
        x.release(1, 3, 5);
        x.formatLoan(1);
        C.same("a shorter line", Picture.lineOf(x), "L1 b1 40+2 @10 d50 1x25 2x5");
        x.release(1, 1, 17);
        C.same("the line stays", Picture.lineOf(x), "L1 b1 40+2 @10 d50 1x25 2x5");
        x.release(1, 2, 5);
        x.formatLoan(1);
        C.same("a unit less than two digits", Picture.lineOf(x), "L1 b1 40+2 @10 d50 1x8");
        LendingDesk many = oneBorrower(0);
        for (int kind = 0; kind < 4; kind++) {
            many.bring(0, kind, 99);
        }
        many.lend(0, 3, 99, 500, 60);
        many.pledge(0, 3, 90);
        many.pledge(0, 0, 1);
        many.pass(30);
        many.formatLoan(0);
        C.same("three digits", Picture.lineOf(many), "L0 b0 500+150 @10 d60 0x1 3x189");
        sentence("An example is \"L3 b1 200+4 @15 d30 0x20 2x7\".");
        LendingDesk example = likeTheExample();
        C.same("formatLoan", example.formatLoan(3), 28);
        C.same("the example", Picture.lineOf(example), "L3 b1 200+4 @15 d30 0x20 2x7");
        sentence("Returns the length of the line.");
        C.same("formatLoan", x.formatLoan(1), 22);
        C.same("formatLoan", many.formatLoan(0), 31);
        C.same("formatLoan", x.formatLoan(3), 35);
        sentence("Throws `NoSuchElementException` if no loan has this id");
        ids("formatLoan", LendingDesk::formatLoan);
        refuses(x, Checks.MISSING, "formatLoan, which leaves the line,", y -> y.formatLoan(2));
        C.same("the line", Picture.lineOf(x).length(), 35);
    }

    private static LendingDesk likeTheExample() {
        LendingDesk x = twoBorrowers();
        x.lend(0, 1, 9, 5, 60);
        x.lend(0, 1, 9, 5, 60);
        x.lend(1, 1, 9, 5, 60);
        x.setPrice(0, 30);
        x.lend(1, 0, 20, 200, 30);
        x.pledge(3, 2, 7);
        x.pass(2);
        x.repay(3, 2);
        return x;
    }

    private static void lineChar() {
        section("Promise 57");
        sentence("Returns a character of the line, which is empty at first.");
        refuses(new LendingDesk(), Checks.INDEX, "lineChar(0) of an empty line", y -> y.lineChar(0));
        refuses(oneLoan(), Checks.INDEX, "lineChar(0) before formatLoan", y -> y.lineChar(0));
        sentence("- `index`: the index, starting at 0");
        LendingDesk x = oneLoan();
        int length = x.formatLoan(0);
        C.same("lineChar(0)", x.lineChar(0), 'L');
        C.same("lineChar(1)", x.lineChar(1), '0');
        C.same("the last one", x.lineChar(length - 1), '0');
        sentence("Returns the character.");
        String due = "L0 b0 100+0 @10 d10 1x20";
        C.same("the length", length, due.length());
        for (int i = 0; i < length; i++) {
            C.same("lineChar(" + i + ")", x.lineChar(i), due.charAt(i));
        }
        sentence("Throws `IndexOutOfBoundsException` if the index is negative or not less than the length of the line");
        for (int index : new int[] {-1, length, length + 1, 60, Integer.MIN_VALUE, Integer.MAX_VALUE}) {
            refuses(x, Checks.INDEX, "lineChar(" + index + ")", y -> y.lineChar(index));
        }
        LendingDesk y = someLoans();
        y.formatLoan(3);
        int shorter = y.formatLoan(1) - 4;
        y.release(1, 3, 5);
        C.same("formatLoan", y.formatLoan(1), shorter);
        refuses(y, Checks.INDEX, "lineChar behind a shorter line", z -> z.lineChar(shorter));
        C.same("its last character", y.lineChar(shorter - 1), '5');
    }

    private static void append() {
        section("Promise 58");
        sentence("Appends a character to the input buffer.");
        LendingDesk x = new LendingDesk();
        type(x, "days 12");
        x.run();
        C.same("the program", x.day(), 12);
        sentence("Returns the number of characters in the buffer.");
        for (int i = 1; i <= 60; i++) {
            C.same("append", x.append('z'), i);
        }
        sentence("Throws `IllegalArgumentException` if the character is not in the range from ' ' to '~'");
        for (int c : new int[] {' ', '!', '}', '~', ';', '0', 'a', 'Z'}) {
            C.same("append of " + c, new LendingDesk().append((char) c), 1);
        }
        for (int c : new int[] {0, 9, 10, 31, 127, 128, 160, 255, 256, 65535}) {
            LendingDesk y = new LendingDesk();
            refuses(y, Checks.ARGUMENT, "append of " + c, z -> z.append((char) c));
            C.same("the buffer stays", y.append('x'), 1);
        }
        refuses(x, Checks.ARGUMENT, "append of 31 to a full buffer", y -> y.append((char) 31));
        sentence("Throws `IllegalStateException` if the buffer contains 60 characters");
        LendingDesk full = new LendingDesk();
        type(full, FULL.substring(0, 59));
        C.same("the 60th", full.append(FULL.charAt(59)), 60);
        refuses(full, Checks.STATE, "the 61st", y -> y.append('1'));
        refuses(full, Checks.STATE, "the 61st again", y -> y.append(' '));
        C.same("the 60 are as they were", full.run(), 8);
        C.same("append after run", full.append('x'), 1);
    }

    // ---- promises 59 to 61 ----

    private static void run() {
        section("Promise 59");
        sentence("Parses the contents of the input buffer as a program and executes it.");
        LendingDesk x = new LendingDesk();
        C.same("run", runOf(x, "borrower 7;bring 0 2 30;lend 0 2 30 200 9"), 3);
        C.same("coins", x.coins(0), 207);
        C.same("run", runOf(x, "days 1;repay 0 102"), 2);
        C.same("debt", x.debt(0), 100);
        shorterAfterLonger();
        sentence("Either all commands are executed or none.");
        LendingDesk y = someLoans();
        for (String text : new String[] {"days 1;days 0", "borrower 9;bring 2 0 9;lend 2 0 9 5 9;repay 4 6",
            "price 0 99;repay 1 9;pledge 1 0 9;buy 0 2 9", "days 60;repay 3 1", "release 1 0 5;price 3 1;repay 0 1"}) {
            refusedRun(y, Checks.STATE, text);
        }
        for (String text : new String[] {"days 1;days", "days 1;days 1x", "price 0 99;", "price 0 99;pricf 0 9"}) {
            refusedRun(y, Checks.ARGUMENT, text);
        }
        sentence("The buffer is empty afterwards, even if an exception is thrown.");
        LendingDesk z = new LendingDesk();
        runOf(z, "days 1");
        C.same("after run", z.append('d'), 1);
        C.refuses(Checks.ARGUMENT, "run of d", z::run);
        C.same("after a malformed program", z.append('d'), 1);
        C.refuses(Checks.STATE, "run of days 0", () -> runOf(z, "ays 0"));
        C.same("after a command that fails", z.append('d'), 1);
        type(z, "ays 1");
        C.same("another program", z.run(), 1);
        C.refuses(Checks.ARGUMENT, "run of the empty buffer", z::run);
        C.same("after an empty program", z.append('d'), 1);
        sentence("Returns the number of commands.");
        C.same("1", runOf(new LendingDesk(), "days 1"), 1);
        C.same("2", runOf(new LendingDesk(), "days 1;days 1"), 2);
        C.same("8 in 60 characters", runOf(new LendingDesk(), FULL), 8);
    }

    /** Nothing of an earlier program is read again. */
    private static void shorterAfterLonger() {
        LendingDesk x = new LendingDesk();
        runOf(x, "days 22;days 3");
        runOf(x, "days 2");
        C.same("day", x.day(), 27);
        for (int length = 5; length >= 0; length--) {
            String text = "days ".substring(0, length);
            C.refuses(Checks.ARGUMENT, "run of '" + text + "'", () -> runOf(x, text));
            C.same("errorPosition", x.errorPosition(), length);
        }
        C.same("day", x.day(), 27);
    }

    /** Nothing changes but what is stored of the failure. */
    private static void refusedRun(LendingDesk x, Class<? extends RuntimeException> due, String text) {
        String earlier = withoutStored(x);
        C.refuses(due, "run of " + text, () -> runOf(x, text));
        C.same("picture after " + text, withoutStored(x), earlier);
    }

    private static String withoutStored(LendingDesk x) {
        return Picture.of(x).replaceFirst(" error \\S+ failed \\S+", "");
    }

    private static void runFails() {
        sentence("Throws `IllegalArgumentException` if the program is malformed; the error position is stored");
        LendingDesk x = new LendingDesk();
        String[] texts = {"", "x", "days", "days 1;", "days 1 ", FULL.substring(0, 59), FULL.substring(0, 58) + "x1"};
        int[] due = {0, 0, 4, 7, 6, 59, 58};
        for (int i = 0; i < texts.length; i++) {
            String text = texts[i];
            C.refuses(Checks.ARGUMENT, "run of '" + text + "'", () -> runOf(x, text));
            C.same("errorPosition", Checks.answerOf(x::errorPosition), Integer.toString(due[i]));
            C.same("failedCommand", Checks.answerOf(x::failedCommand), "throws.NoSuchElementException");
        }
        sentence("Throws `IllegalStateException` if the method of a command throws an exception; the index of this"
                + " command, starting at 0, is stored");
        LendingDesk y = new LendingDesk();
        // One for each exception of each method, last in a program of one, two or three.
        String[] failing = {"borrower 501", "bring 0 0 1", "price 4 1", "price 0 100", "lend 0 0 1 1 1", "pledge 0 0 1",
            "release 0 0 1", "repay 0 1", "buy 0 0 1", "days 0", "days 61"};
        for (String text : failing) {
            failsAt(y, text, 0);
            failsAt(y, "days 1;" + text, 1);
            failsAt(y, "days 1;days 1;" + text + ";days 1", 2);
        }
        failsAt(y, "days 1;days 1;days 1;days 1;days 1;days 1;days 1;days 61", 7);
        failsAt(y, "days 61;days 61", 0);
        String[] states = {"borrower 1;borrower 1;borrower 1;borrower 1;borrower 1",
            "borrower 1;bring 2 0 0", "borrower 1;lend 2 0 9 1 1", "price 0 1;lend 0 1 9 61 9", "pledge 1 4 1",
            "pledge 1 0 0", "pledge 1 0 99", "release 1 4 1", "release 1 0 0", "release 1 0 6", "repay 1 0",
            "repay 1 43", "buy 0 4 1", "buy 0 0 0", "buy 0 2 5"};
        int[] index = {4, 1, 1, 1, 0, 0, 0, 0, 0, 0, 0, 0, 0, 0, 0};
        for (int i = 0; i < states.length; i++) {
            failsAt(someLoans(), states[i], index[i]);
        }
        C.same("errorPosition", Checks.answerOf(y::errorPosition), "throws.NoSuchElementException");
    }

    private static void failsAt(LendingDesk x, String text, int due) {
        C.refuses(Checks.STATE, "run of " + text, () -> runOf(x, text));
        C.same("failedCommand of " + text, Checks.answerOf(x::failedCommand), Integer.toString(due));
    }

    private static void errorPosition() {
        section("Promise 60");
        sentence("Returns the stored error position.");
        LendingDesk x = new LendingDesk();
        C.refuses(Checks.ARGUMENT, "run of days 1;da", () -> runOf(x, "days 1;da"));
        C.same("errorPosition", x.errorPosition(), 9);
        C.same("errorPosition again", x.errorPosition(), 9);
        sentence("Returns the error position of the latest malformed program.");
        C.refuses(Checks.ARGUMENT, "run of days x", () -> runOf(x, "days x"));
        C.same("the later one", x.errorPosition(), 5);
        runOf(x, "days 1");
        C.same("after a run", x.errorPosition(), 5);
        C.refuses(Checks.STATE, "run of days 0", () -> runOf(x, "days 0"));
        C.same("after a failure", x.errorPosition(), 5);
        x.save();
        x.restore();
        C.same("after restore", x.errorPosition(), 5);
        C.refuses(Checks.ARGUMENT, "run of nothing", x::run);
        C.same("0", x.errorPosition(), 0);
        sentence("Throws `NoSuchElementException` if no program was malformed so far");
        LendingDesk y = new LendingDesk();
        refuses(y, Checks.MISSING, "errorPosition of a new object", LendingDesk::errorPosition);
        runOf(y, "days 1");
        C.refuses(Checks.STATE, "run of days 0", () -> runOf(y, "days 0"));
        type(y, "x");
        refuses(y, Checks.MISSING, "errorPosition before a malformed run", LendingDesk::errorPosition);
        C.refuses(Checks.ARGUMENT, "run of x", y::run);
        C.same("errorPosition after it", y.errorPosition(), 0);
    }

    private static void failedCommand() {
        section("Promise 61");
        sentence("Returns the stored index of a failed command.");
        LendingDesk x = new LendingDesk();
        failsAt(x, "days 1;price 0 9;days 0;days 0", 2);
        C.same("failedCommand again", x.failedCommand(), 2);
        sentence("Returns the index of the latest command that failed.");
        failsAt(x, "days 1;days 0", 1);
        runOf(x, "days 1");
        C.same("after a run", x.failedCommand(), 1);
        C.refuses(Checks.ARGUMENT, "a malformed run", () -> runOf(x, "days 0;"));
        C.same("after a malformed run", x.failedCommand(), 1);
        refuses(x, Checks.ARGUMENT, "a call that is no command", y -> y.pass(0));
        x.undo();
        C.same("after undo", x.failedCommand(), 1);
        failsAt(x, "days 0", 0);
        sentence("Throws `NoSuchElementException` if no command failed so far");
        LendingDesk y = new LendingDesk();
        refuses(y, Checks.MISSING, "failedCommand of a new object", LendingDesk::failedCommand);
        runOf(y, "days 1");
        C.refuses(Checks.ARGUMENT, "a malformed run", () -> runOf(y, "days 0;"));
        refuses(y, Checks.ARGUMENT, "pass(0)", z -> z.pass(0));
        refuses(y, Checks.MISSING, "failedCommand without a failure", LendingDesk::failedCommand);
        failsAt(y, "days 0", 0);
    }

    // ---- promises 62 and 63 ----

    private static void undoableCount() {
        section("Promise 62");
        sentence("Returns the number of changes that can be undone.");
        LendingDesk x = new LendingDesk();
        x.addBorrower(100);
        x.bring(0, 0, 90);
        x.setPrice(0, 20);
        C.same("three", x.undoableCount(), 3);
        x.lend(0, 0, 20, 90, 60);
        x.pledge(0, 0, 5);
        x.release(0, 0, 5);
        C.same("six", x.undoableCount(), 6);
        x.repay(0, 9);
        C.same("seven", x.undoableCount(), 7);
        x.pass(1);
        C.same("eight", x.undoableCount(), 8);
        sentence("Returns the number, 0 to 8.");
        LendingDesk y = new LendingDesk();
        for (int i = 0; i <= 20; i++) {
            C.same("after " + i, y.undoableCount(), Math.min(i, 8));
            runOf(y, "days 1");
        }
        y.undo();
        C.same("7 after undo", y.undoableCount(), 7);
        y.pass(1);
        C.same("8 again", y.undoableCount(), 8);
        y.pass(1);
        C.same("8 still", y.undoableCount(), 8);
        for (int i = 7; i >= 0; i--) {
            y.undo();
            C.same("after undo", y.undoableCount(), i);
        }
    }

    private static void undo() {
        section("Promise 63");
        sentence("Undoes the latest change that has not been undone.");
        LendingDesk x = new LendingDesk();
        for (int day = 1; day <= 5; day++) {
            x.pass(1);
        }
        x.undo();
        C.same("day 4", x.day(), 4);
        x.undo();
        C.same("day 3", x.day(), 3);
        x.pass(10);
        C.same("day 13", x.day(), 13);
        x.undo();
        x.undo();
        C.same("day 2", x.day(), 2);
        runOf(x, "days 1;days 1;days 1");
        C.same("day 5", x.day(), 5);
        x.undo();
        C.same("a run is one change", x.day(), 2);
        sentence("Returns the number of changes that can still be undone.");
        C.same("undo", x.undo(), 1);
        C.same("undo", x.undo(), 0);
        C.same("day 0", x.day(), 0);
        LendingDesk y = new LendingDesk();
        for (int i = 1; i <= 9; i++) {
            y.pass(1);
        }
        for (int i = 7; i >= 0; i--) {
            C.same("undo", y.undo(), i);
            C.same("day", y.day(), 1 + i);
        }
        sentence("Throws `IllegalStateException` if no change can be undone");
        refuses(x, Checks.STATE, "undo after as many", LendingDesk::undo);
        refuses(y, Checks.STATE, "undo after eight", LendingDesk::undo);
        refuses(new LendingDesk(), Checks.STATE, "undo of a new object", LendingDesk::undo);
        refuses(y, Checks.ARGUMENT, "pass(0)", z -> z.pass(0));
        refuses(y, Checks.STATE, "undo after a refused call", LendingDesk::undo);
        y.pass(1);
        C.same("undo after one more", y.undo(), 0);
    }

    // ---- promises 64 and 65 ----

    private static void save() {
        section("Promise 64");
        sentence("Saves a copy of everything that changes can change, replacing an earlier copy.");
        LendingDesk x = someLoans();
        for (int i = 0; i < 3; i++) {
            String earlier = withoutUndo(x);
            x.save();
            changeEverything(x);
            C.no("there are changes", withoutUndo(x).equals(earlier));
            x.restore();
            C.same("picture after restore", withoutUndo(x), earlier);
            // The next copy, of another state, takes the place of this one.
            x.setPrice(2, 50 + i);
            x.lend(1, 3, 9, 5, 60);
        }
        sentence("Returns the number of loans.");
        C.same("none", new LendingDesk().save(), 0);
        C.same("two", someLoans().save(), 2);
        LendingDesk full = oneBorrower(0);
        for (int i = 0; i < 10; i++) {
            C.same("save", full.save(), i);
            full.lend(0, 0, 1, 1, 60);
        }
        C.same("ten", full.save(), 10);
        int undoable = full.undoableCount();
        full.save();
        C.same("save is no change", full.undoableCount(), undoable);
    }

    /** The day, prices, coins, units, stock, loans, ledger, counts, and the next free id. */
    private static void changeEverything(LendingDesk x) {
        x.addBorrower(77);
        x.bring(2, 1, 7);
        x.repay(x.idAt(0), 3);
        x.repay(x.idAt(0), x.debt(x.idAt(0)));
        x.lend(1, 2, 9, 50, 1);
        x.buy(0, 2, 1);
        x.setPrice(2, 1);
        x.setPrice(3, 98);
        x.pass(3);
        runOf(x, "bring 1 0 5;days 1");
    }

    private static void restore() {
        section("Promise 65");
        sentence("Restores the saved copy, which stays available.");
        LendingDesk x = someLoans();
        x.save();
        String earlier = withoutUndo(x);
        for (int i = 0; i < 3; i++) {
            changeEverything(x);
            x.restore();
            C.same("picture after restore", withoutUndo(x), earlier);
            C.same("the next free id", x.lend(1, 3, 9, 5, 60), 4);
        }
        x.restore();
        x.restore();
        C.same("picture after restore of what is unchanged", withoutUndo(x), earlier);
        sentence("No changes can be undone afterwards.");
        C.same("undoableCount", x.undoableCount(), 0);
        refuses(x, Checks.STATE, "undo", LendingDesk::undo);
        x.pass(1);
        C.same("a change afterwards", x.undoableCount(), 1);
        C.same("undo of it", x.undo(), 0);
        C.same("picture after it", withoutUndo(x), earlier);
        refuses(x, Checks.STATE, "undo of what was before", LendingDesk::undo);
        sentence("Returns the number of loans.");
        changeEverything(x);
        C.same("restore", x.restore(), 2);
        LendingDesk full = oneBorrower(0);
        full.save();
        for (int i = 0; i < 10; i++) {
            full.lend(0, 0, 1, 1, 60);
        }
        C.same("none", full.restore(), 0);
        for (int i = 0; i < 10; i++) {
            C.same("the ids again", full.lend(0, 0, 1, 1, 60), i);
        }
        full.save();
        full.pass(60);
        full.pass(1);
        C.same("ten", full.restore(), 10);
        C.same("the day", full.day(), 0);
        sentence("Throws `IllegalStateException` if there is no saved copy");
        refuses(new LendingDesk(), Checks.STATE, "restore of a new object", LendingDesk::restore);
        refuses(someLoans(), Checks.STATE, "restore without a copy", LendingDesk::restore);
        LendingDesk y = new LendingDesk();
        y.save();
        C.same("the least copy", y.restore(), 0);
    }
}
