import java.lang.reflect.Array;
import java.lang.reflect.Field;
import java.util.function.Consumer;

/** What the test programs share: the checks, objects to start from, and ways to call. */
abstract class TestBase {
    static final Checks C = new Checks();

    // ---- objects to start from ----

    /** One borrower with coins and 90 units of each kind. */
    static LendingDesk oneBorrower(int coins) {
        LendingDesk x = new LendingDesk();
        x.addBorrower(coins);
        for (int kind = 0; kind < 4; kind++) {
            x.bring(0, kind, 90);
        }
        return x;
    }

    static LendingDesk oneBorrower0() {
        return oneBorrower(0);
    }

    /** Two borrowers with 50 coins and 90 units of each kind. */
    static LendingDesk twoBorrowers() {
        LendingDesk x = new LendingDesk();
        for (int borrower = 0; borrower < 2; borrower++) {
            x.addBorrower(50);
            for (int kind = 0; kind < 4; kind++) {
                x.bring(borrower, kind, 90);
            }
        }
        return x;
    }

    /** Loan 0 of borrower 0: 100 coins against 20 units of kind 1 for 10 days. */
    static LendingDesk oneLoan() {
        LendingDesk x = oneBorrower(50);
        x.lend(0, 1, 20, 100, 10);
        return x;
    }

    /** On day 2, loan 0 is repaid and loan 2 defaulted; 1 (of borrower 1) and 3 exist and hold units of each kind. */
    static LendingDesk someLoans() {
        LendingDesk x = twoBorrowers();
        x.lend(0, 0, 20, 40, 50);
        x.lend(1, 1, 20, 40, 50);
        x.lend(0, 2, 9, 30, 1);
        x.lend(0, 0, 20, 30, 40);
        x.repay(0, 40);
        x.pass(2);
        for (int kind = 0; kind < 4; kind++) {
            x.pledge(1, kind, 5);
            x.pledge(3, kind, 5);
        }
        return x;
    }

    /** A borrower with two loans that defaulted on day 2. */
    static LendingDesk twoDefaults() {
        LendingDesk x = oneBorrower(50);
        x.lend(0, 0, 10, 50, 1);
        x.lend(0, 1, 10, 50, 1);
        x.pass(2);
        return x;
    }

    /** A desk with 6 units of each kind in stock, from four defaults of borrower 0, who has 250 coins. */
    static LendingDesk stocked() {
        LendingDesk x = oneBorrower(50);
        for (int kind = 0; kind < 4; kind++) {
            x.lend(0, kind, 9, 50, 1);
        }
        x.pass(2);
        return x;
    }

    // ---- oneLoan() with its private state changed from outside ----

    /** Sets a field of the desk, an element of it at a kind, or (place -2) a field of the first loan. */
    static LendingDesk tampered(int place, String name, int value) {
        LendingDesk x = oneLoan();
        try {
            Object target = valueIn(x, "desk");
            if (place >= 0) {
                ((int[]) valueIn(target, name))[place] = value;
                return x;
            }
            if (place == -2) {
                target = Array.get(valueIn(target, "loans"), 0);
            }
            Field field = target.getClass().getDeclaredField(name);
            field.setAccessible(true);
            field.setInt(target, value);
            return x;
        } catch (ReflectiveOperationException e) {
            throw new IllegalStateException(e);
        }
    }

    static Object valueIn(Object owner, String name) throws ReflectiveOperationException {
        Field field = owner.getClass().getDeclaredField(name);
        field.setAccessible(true);
        return field.get(owner);
    }

    // ---- ways to call ----

    static void type(LendingDesk x, String text) {
        for (int i = 0; i < text.length(); i++) {
            x.append(text.charAt(i));
        }
    }

    static int runOf(LendingDesk x, String text) {
        type(x, text);
        return x.run();
    }

    static String withoutUndo(LendingDesk x) {
        return Picture.of(x).replaceFirst(" undo \\d", "");
    }

    /** The call must throw the very class due, and leave everything that can be seen as it was. */
    static void refuses(LendingDesk x, Class<? extends RuntimeException> due, String what,
            Consumer<LendingDesk> call) {
        String earlier = Picture.of(x);
        C.refuses(due, what, () -> call.accept(x));
        C.same("picture after the refused " + what, Picture.of(x), earlier);
    }
}
