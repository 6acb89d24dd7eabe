import java.util.List;
import java.util.function.Consumer;

/** 'What it is' and 'Terms', sentence by sentence. What the programs and undo say is in BoundaryProgramsTest too. */
public final class BoundaryTermsTest extends BoundaryBase {
    private BoundaryTermsTest() {
    }

    public static void main(String[] args) {
        whatItIs();
        terms();
        goods();
        borrowers();
        desk();
        loans();
        granting();
        repayment();
        days();
        defaults();
        ledger();
        commands();
        undo();
        errors();
        finishSections(name -> !name.startsWith("Promise "));
    }

    private static void whatItIs() {
        section("What it is");
        sentence("An object is used for at most 512 calls after it has been made; what later calls answer is free.");
        LendingDesk x = new LendingDesk();
        for (int call = 1; call <= 511; call++) {
            C.same("call " + call, x.setPrice(0, 1 + call % 99), call == 1 ? 10 : 1 + (call - 1) % 99);
        }
        C.same("call 512", x.price(0), 1 + 511 % 99);
        LendingDesk y = new LendingDesk();
        for (int call = 1; call <= 511; call++) {
            y.pass(60);
        }
        C.same("call 512", y.day(), 511 * 60);
        LendingDesk z = new LendingDesk();
        for (int call = 1; call <= 511; call++) {
            z.setPrice(0, 5);
        }
        C.same("call 512", z.undo(), 7);
    }

    // ---- the sentences before the goods ----

    private static void terms() {
        section("Terms");
        sentence("Every unit of collateral secures exactly one loan.");
        LendingDesk x = new LendingDesk();
        x.addBorrower(0);
        x.bring(0, 0, 10);
        x.lend(0, 0, 6, 10, 5);
        refuses(x, Checks.STATE, "lend on pledged units", y -> y.lend(0, 0, 5, 10, 5));
        C.same("lend on the others", x.lend(0, 0, 4, 10, 5), 1);
        refuses(x, Checks.STATE, "pledge of pledged units", y -> y.pledge(1, 0, 1));
        C.same("pledgedUnits", x.pledgedUnits(0, 0), 10);
        x.repay(1, 10);
        C.same("the units of the repaid loan", x.units(0, 0), 4);
        C.same("the collateral of the other loan", x.collateral(0, 0), 6);
        sentence("The desk, the borrowers and the loans together always hold all coins and all units that were brought"
                + " in.");
        allIsHeld();
        sentence("Integer divisions round towards zero unless stated otherwise.");
        LendingDesk z = oneBorrower(0);
        C.same("20 / 3", z.greatestPrincipal(0, 0, 1), 6);
        C.same("40 / 3", z.greatestPrincipal(0, 0, 2), 13);
        C.same("60 / 3", z.greatestPrincipal(0, 0, 3), 20);
        z.setPrice(0, 1);
        refuses(z, Checks.MISSING, "greatestPrincipal of 2 / 3", y -> y.greatestPrincipal(0, 0, 1));
    }

    private static void allIsHeld() {
        LendingDesk x = new LendingDesk();
        holds(x, 0, 0);
        x.addBorrower(500);
        x.addBorrower(0);
        x.bring(0, 0, 99);
        x.bring(1, 0, 1);
        holds(x, 500, 100);
        x.lend(0, 0, 50, 300, 1);
        x.lend(0, 0, 20, 50, 60);
        holds(x, 500, 100);
        x.pledge(1, 0, 29);
        x.release(1, 0, 10);
        x.repay(1, 20);
        holds(x, 500, 100);
        x.pass(2);
        holds(x, 500, 100);
        x.buy(0, 0, 3);
        holds(x, 500, 100);
        x.save();
        x.bring(1, 0, 5);
        x.addBorrower(7);
        holds(x, 507, 105);
        x.undo();
        holds(x, 500, 105);
        x.restore();
        holds(x, 500, 100);
        x.repay(1, x.debt(1));
        holds(x, 500, 100);
    }

    private static void holds(LendingDesk x, int coins, int units) {
        int heldCoins = x.capital();
        int heldUnits = x.stock(0);
        for (int b = 0; b < x.borrowerCount(); b++) {
            heldCoins += x.coins(b);
            heldUnits += x.units(b, 0);
        }
        for (int i = 0; i < x.loanCount(); i++) {
            heldUnits += x.collateral(x.idAt(i), 0);
        }
        C.same("the coins", heldCoins, 1000 + coins);
        C.same("totalCoins", x.totalCoins(), 1000 + coins);
        C.same("the units", heldUnits, units);
        C.same("totalUnits", x.totalUnits(0), units);
        C.yes("isBalanced", x.isBalanced());
    }

    // ---- goods, borrowers, the desk ----

    private static void goods() {
        section("Goods");
        sentence("There are the kinds of goods 0 to 3.");
        kinds("bring", TestBase::someLoans, (x, k) -> x.bring(0, k, 1));
        kinds("setPrice", TestBase::someLoans, (x, k) -> x.setPrice(k, 1));
        kinds("lend", TestBase::someLoans, (x, k) -> x.lend(0, k, 1, 1, 1));
        kinds("pledge", TestBase::someLoans, (x, k) -> x.pledge(1, k, 1));
        kinds("release", TestBase::someLoans, (x, k) -> x.release(1, k, 1));
        kinds("buy", TestBase::stocked, (x, k) -> x.buy(0, k, 1));
        kinds("price", TestBase::someLoans, LendingDesk::price);
        kinds("stock", TestBase::someLoans, LendingDesk::stock);
        kinds("units", TestBase::someLoans, (x, k) -> x.units(0, k));
        kinds("pledgedUnits", TestBase::someLoans, (x, k) -> x.pledgedUnits(0, k));
        kinds("collateral", TestBase::someLoans, (x, k) -> x.collateral(1, k));
        kinds("missingUnits", TestBase::someLoans, (x, k) -> x.missingUnits(1, k));
        kinds("greatestPrincipal", TestBase::someLoans, (x, k) -> x.greatestPrincipal(0, k, 1));
        kinds("totalUnits", TestBase::someLoans, LendingDesk::totalUnits);
        sentence("Every kind has a price of 1 to 99 coins per unit, initially 10.");
        for (int kind = 0; kind < 4; kind++) {
            int k = kind;
            C.same("the first price", new LendingDesk().price(k), 10);
            range("setPrice", 1, 99, LendingDesk::new, (x, price) -> x.setPrice(k, price));
        }
        sentence("The value of some units is their number times the price of their kind.");
        LendingDesk x = new LendingDesk();
        x.addBorrower(0);
        x.bring(0, 0, 99);
        x.bring(0, 1, 1);
        x.lend(0, 0, 99, 1, 60);
        x.lend(0, 1, 1, 1, 60);
        C.same("99 units for 10", x.collateralValue(0), 990);
        C.same("1 unit for 10", x.collateralValue(1), 10);
        x.setPrice(0, 99);
        x.setPrice(1, 1);
        C.same("99 units for 99", x.collateralValue(0), 9801);
        C.same("1 unit for 1", x.collateralValue(1), 1);
    }

    private static void borrowers() {
        section("Borrowers");
        sentence("There are at most 6 borrowers, numbered from 0 in the order in which they were added.");
        LendingDesk x = new LendingDesk();
        for (int b = 0; b < 6; b++) {
            C.same("addBorrower", x.addBorrower(10 * b), b);
            C.same("borrowerCount", x.borrowerCount(), b + 1);
        }
        for (int b = 0; b < 6; b++) {
            C.same("coins", x.coins(b), 10 * b);
        }
        refuses(x, Checks.STATE, "a seventh borrower", y -> y.addBorrower(1));
        sentence("A borrower has coins and, of each kind, a number of units.");
        LendingDesk z = new LendingDesk();
        z.addBorrower(3);
        z.addBorrower(0);
        for (int kind = 0; kind < 4; kind++) {
            C.same("units at first", z.units(0, kind), 0);
            z.bring(0, kind, 5 + kind);
        }
        for (int kind = 0; kind < 4; kind++) {
            C.same("units", z.units(0, kind), 5 + kind);
            C.same("units of the other borrower", z.units(1, kind), 0);
        }
        C.same("coins", z.coins(0), 3);
        afterRestore();
        unitsThatComeBack();
    }

    /** A borrower and a loan that take the place of those before restore have nothing of theirs. */
    private static void afterRestore() {
        LendingDesk x = new LendingDesk();
        x.save();
        x.addBorrower(3);
        for (int kind = 0; kind < 4; kind++) {
            x.bring(0, kind, 9);
        }
        x.lend(0, 0, 4, 5, 1);
        x.lend(0, 0, 4, 5, 60);
        for (int kind = 1; kind < 4; kind++) {
            x.pledge(1, kind, 4);
        }
        x.pass(2);
        C.same("defaults before", x.defaults(0), 1);
        x.restore();
        x.addBorrower(4);
        C.same("coins", x.coins(0), 4);
        C.same("defaults", x.defaults(0), 0);
        for (int kind = 0; kind < 4; kind++) {
            C.same("units", x.units(0, kind), 0);
            x.bring(0, kind, 9);
        }
        for (int id = 0; id < 2; id++) {
            C.same("lend", x.lend(0, 2, 3, 5, 1), id);
            C.same("interest", x.interest(id), 0);
            for (int kind = 0; kind < 4; kind++) {
                C.same("collateral", x.collateral(id, kind), kind == 2 ? 3 : 0);
            }
        }
    }

    private static void unitsThatComeBack() {
        sentence("The limit of 999 units of a kind that bring and buy check does not apply to units that come back from"
                + " collateral.");
        LendingDesk byRepay = fullBorrower();
        C.same("repay", byRepay.repay(0, 49), 0);
        C.same("units after repay", byRepay.units(0, 0), 1019);
        LendingDesk byRelease = fullBorrower();
        C.same("release", byRelease.release(0, 0, 1), 190);
        C.same("units after release", byRelease.units(0, 0), 1000);
        LendingDesk byDefault = fullBorrower();
        C.same("pass", byDefault.pass(2), 1);
        C.same("units after the default", byDefault.units(0, 0), 1013);
        C.same("stock", byDefault.stock(0), 6);
        refuses(byDefault, Checks.STATE, "bring beyond", y -> y.bring(0, 0, 1));
        refuses(byDefault, Checks.STATE, "buy beyond", y -> y.buy(0, 0, 1));
        byDefault.lend(0, 0, 15, 1, 60);
        C.same("units", byDefault.units(0, 0), 998);
        refuses(byDefault, Checks.STATE, "bring to 1000", y -> y.bring(0, 0, 2));
        refuses(byDefault, Checks.STATE, "buy to 1000", y -> y.buy(0, 0, 2));
        C.same("buy to 999", byDefault.buy(0, 0, 1), 10);
        byDefault.undo();
        C.same("bring to 999", byDefault.bring(0, 0, 1), 999);
    }

    /** Borrower 0 has 999 units of kind 0, and 20 more secure loan 0 of 49 coins for a day. */
    private static LendingDesk fullBorrower() {
        LendingDesk x = new LendingDesk();
        x.addBorrower(0);
        x.bring(0, 0, 20);
        x.lend(0, 0, 20, 49, 1);
        for (int i = 0; i < 10; i++) {
            x.bring(0, 0, 99);
        }
        x.bring(0, 0, 9);
        return x;
    }

    private static void desk() {
        section("The desk");
        sentence("The desk has a capital of coins, initially 1000, and a stock of units of each kind, initially 0.");
        LendingDesk x = new LendingDesk();
        C.same("capital", x.capital(), 1000);
        for (int kind = 0; kind < 4; kind++) {
            C.same("stock", x.stock(kind), 0);
        }
        x = oneBorrower(50);
        C.same("capital, not the borrower's coins", x.capital(), 1000);
        C.same("stock, not the borrower's units", x.stock(0), 0);
        refuses(x, Checks.STATE, "buy from an empty stock", y -> y.buy(0, 0, 1));
    }

    // ---- loans ----

    private static void loans() {
        section("Loans");
        sentence("A loan has a borrower, a principal, accrued interest, a rate, a due day, and collateral, which is a"
                + " number of units of each kind.");
        LendingDesk x = twoBorrowers();
        x.lend(1, 2, 9, 7, 8);
        C.same("borrowerOf", x.borrowerOf(0), 1);
        C.same("principal", x.principal(0), 7);
        C.same("interest", x.interest(0), 0);
        C.same("rate", x.rate(0), 10);
        C.same("dueDay", x.dueDay(0), 8);
        for (int kind = 0; kind < 4; kind++) {
            C.same("collateral", x.collateral(0, kind), kind == 2 ? 9 : 0);
        }
        ids();
        sentence("The debt of a loan is its principal plus its accrued interest.");
        LendingDesk y = oneLoan();
        C.same("debt without interest", y.debt(0), 100);
        y.pass(1);
        C.same("debt with interest", y.debt(0), 101);
        y.repay(0, 100);
        C.same("the last of the debt", y.debt(0), 1);
        sentence("A loan exists until it is repaid or defaults.");
        LendingDesk z = twoBorrowers();
        C.no("exists before it is granted", z.exists(0));
        z.lend(0, 0, 20, 40, 3);
        z.lend(1, 0, 20, 40, 3);
        z.repay(0, 39);
        C.yes("exists with a debt of 1", z.exists(0));
        z.repay(0, 1);
        C.no("exists when it is repaid", z.exists(0));
        z.pass(3);
        C.yes("exists on its due day", z.exists(1));
        z.pass(1);
        C.no("exists after its default", z.exists(1));
        tenLoans();
        values();
    }

    private static void ids() {
        sentence("A new loan gets the next free id: the first loan has id 0, and each further loan has the id of the"
                + " loan granted before it plus 1.");
        LendingDesk x = twoBorrowers();
        C.same("the first loan", x.lend(0, 0, 9, 5, 1), 0);
        C.same("the second loan", x.lend(1, 0, 9, 5, 60), 1);
        x.repay(1, 5);
        C.same("after a repayment of the latest loan", x.lend(1, 0, 9, 5, 60), 2);
        x.pass(2);
        C.same("after a default", x.lend(0, 0, 9, 5, 1), 3);
        refuses(x, Checks.STATE, "lend of too much", y -> y.lend(0, 0, 1, 7, 1));
        C.same("after a refused call", x.lend(0, 0, 9, 5, 1), 4);
        sentence("Undo and restore also take back the next free id.");
        x.undo();
        C.same("after undo", x.lend(0, 0, 9, 5, 1), 4);
        x.save();
        x.lend(0, 0, 9, 5, 1);
        x.lend(0, 0, 9, 5, 1);
        x.restore();
        C.same("after restore", x.lend(0, 0, 9, 5, 1), 5);
        x.repay(5, 5);
        x.undo();
        x.undo();
        C.same("after undo of a repayment and of its loan", x.lend(1, 0, 9, 5, 1), 5);
    }

    private static void tenLoans() {
        sentence("At most 10 loans exist at the same time.");
        LendingDesk x = twoBorrowers();
        for (int i = 0; i < 9; i++) {
            x.lend(i % 2, 0, 1, 1, i == 0 ? 1 : 60);
        }
        C.same("the tenth loan", x.lend(1, 0, 1, 1, 60), 9);
        C.same("loanCount", x.loanCount(), 10);
        refuses(x, Checks.STATE, "an eleventh loan", y -> y.lend(0, 0, 1, 1, 60));
        refuses(x, Checks.STATE, "an eleventh loan of the other borrower", y -> y.lend(1, 0, 1, 1, 60));
        x.repay(3, 1);
        C.same("after a repayment", x.lend(0, 0, 1, 1, 60), 10);
        refuses(x, Checks.STATE, "one more", y -> y.lend(0, 0, 1, 1, 60));
        x.pass(2);
        C.same("loanCount after a default", x.loanCount(), 9);
        C.same("after a default", x.lend(0, 0, 1, 1, 60), 11);
        refuses(x, Checks.STATE, "one more", y -> y.lend(0, 0, 1, 1, 60));
    }

    private static void values() {
        sentence("The collateral value of a loan is the sum of the values of its collateral at the present prices.");
        LendingDesk x = oneBorrower(0);
        x.lend(0, 0, 1, 1, 60);
        for (int kind = 1; kind < 4; kind++) {
            C.same("pledge", x.pledge(0, kind, kind + 1), new int[] {10, 30, 60, 100}[kind]);
        }
        int[] prices = {1, 99, 2, 50};
        for (int kind = 0; kind < 4; kind++) {
            x.setPrice(kind, prices[kind]);
        }
        C.same("at the present prices", x.collateralValue(0), 1 + 2 * 99 + 3 * 2 + 4 * 50);
        sentence("A loan is covered if 3 times its debt is at most 2 times its collateral value.");
        LendingDesk y = oneBorrower(0);
        refuses(y, Checks.STATE, "lend of 21 on 30", z -> z.lend(0, 0, 3, 21, 60));
        C.same("lend of 20 on 30", y.lend(0, 0, 3, 20, 60), 0);
        C.yes("60 and 60", y.isCovered(0));
        y.pass(1);
        C.no("63 and 60", y.isCovered(0));
        y.repay(0, 2);
        C.yes("57 and 60", y.isCovered(0));
        LendingDesk near = oneBorrower(0);
        near.lend(0, 0, 28, 20, 60);
        near.pledge(0, 1, 1);
        near.setPrice(0, 1);
        near.setPrice(1, 3);
        C.yes("60 and 62", near.isCovered(0));
        near.setPrice(1, 2);
        C.yes("60 and 60 again", near.isCovered(0));
        near.setPrice(1, 1);
        C.no("60 and 58", near.isCovered(0));
    }

    // ---- granting and repayment ----

    private static void granting() {
        section("Granting");
        sentence("The rate of a new loan is 10 plus 5 for every loan of the borrower that already exists.");
        LendingDesk x = twoBorrowers();
        for (int i = 0; i < 8; i++) {
            C.same("the rate with " + i + " loans", x.rate(x.lend(0, 0, 1, 1, 60)), 10 + 5 * i);
        }
        C.same("the rate of another borrower", x.rate(x.lend(1, 0, 1, 1, 60)), 10);
        C.same("the rate with 8 loans of 9", x.rate(x.lend(0, 0, 1, 1, 1)), 50);
        x.pass(2);
        C.same("the rate after a default", x.rate(x.lend(0, 0, 1, 1, 60)), 50);
        C.same("the rate of an earlier loan", x.rate(7), 45);
        x.repay(0, x.debt(0));
        x.repay(1, x.debt(1));
        C.same("the rate with 7 loans left", x.rate(x.lend(0, 0, 1, 1, 60)), 45);
        sentence("The due day is the present day plus the term.");
        LendingDesk y = oneBorrower(0);
        C.same("term 1", y.dueDay(y.lend(0, 0, 1, 1, 1)), 1);
        C.same("term 60", y.dueDay(y.lend(0, 0, 1, 1, 60)), 60);
        y.pass(1);
        C.same("term 1 on day 1", y.dueDay(y.lend(0, 0, 1, 1, 1)), 2);
        C.same("term 60 on day 1", y.dueDay(y.lend(0, 0, 1, 1, 60)), 61);
        sentence("The principal is paid from the capital of the desk to the borrower, and the pledged units pass from"
                + " the borrower to the loan.");
        LendingDesk z = twoBorrowers();
        z.setPrice(0, 20);
        z.lend(0, 0, 90, 500, 60);
        z.lend(1, 1, 1, 1, 60);
        C.same("capital", z.capital(), 499);
        C.same("coins", z.coins(0), 550);
        C.same("coins of the other borrower", z.coins(1), 51);
        C.same("units", z.units(0, 0), 0);
        C.same("collateral", z.collateral(0, 0), 90);
        C.same("units of the other borrower", z.units(1, 1), 89);
        C.same("collateral of the other loan", z.collateral(1, 1), 1);
        barred();
    }

    private static void barred() {
        sentence("A borrower with 2 or more defaults gets no loan.");
        for (int count = 0; count <= 3; count++) {
            LendingDesk x = twoBorrowers();
            for (int i = 0; i < count; i++) {
                x.lend(0, i, 9, 20, 1);
            }
            x.pass(2);
            C.same("defaults", x.defaults(0), count);
            if (count < 2) {
                C.same("lend after " + count, x.lend(0, 3, 9, 20, 1), count);
            } else {
                refuses(x, Checks.STATE, "lend after " + count, y -> y.lend(0, 3, 9, 20, 1));
            }
            C.returns("lend to the other borrower", () -> x.lend(1, 3, 9, 20, 1));
        }
    }

    private static void repayment() {
        section("Repayment");
        sentence("A repayment is paid by the borrower to the desk.");
        LendingDesk x = twoBorrowers();
        x.lend(1, 0, 20, 40, 60);
        x.repay(0, 1);
        C.same("coins", x.coins(1), 89);
        C.same("capital", x.capital(), 961);
        C.same("coins of the other borrower", x.coins(0), 50);
        sentence("It reduces the accrued interest first, and then the principal.");
        for (int coins = 1; coins <= 7; coins++) {
            LendingDesk y = oneLoan();
            y.pass(5);
            C.same("repay of " + coins, y.repay(0, coins), 105 - coins);
            C.same("interest after " + coins, y.interest(0), coins <= 5 ? 5 - coins : 0);
            C.same("principal after " + coins, y.principal(0), coins <= 5 ? 100 : 105 - coins);
        }
        sentence("If the debt is 0 afterwards, the loan is repaid: its collateral passes to the borrower.");
        LendingDesk z = oneLoan();
        z.pledge(0, 0, 1);
        z.pledge(0, 3, 7);
        z.pass(1);
        refuses(z, Checks.STATE, "a coin too many", y -> y.repay(0, 102));
        C.same("a coin too few", z.repay(0, 100), 1);
        C.same("collateral", z.collateral(0, 1), 20);
        C.same("units", z.units(0, 1), 70);
        C.same("the last coin", z.repay(0, 1), 0);
        C.no("exists", z.exists(0));
        for (int kind = 0; kind < 4; kind++) {
            C.same("units", z.units(0, kind), 90);
            C.same("pledgedUnits", z.pledgedUnits(0, kind), 0);
            C.same("stock", z.stock(kind), 0);
        }
        LendingDesk atOnce = oneLoan();
        C.same("all at once", atOnce.repay(0, 100), 0);
        C.same("units", atOnce.units(0, 1), 90);
    }

    // ---- days and defaults ----

    private static void days() {
        section("Days");
        sentence("The day is 0 at first.");
        C.same("day", new LendingDesk().day(), 0);
        C.same("dueDay of a term of 1", loanFor(1, 1).dueDay(0), 1);
        sentence("When a day passes, the following happens in this order.");
        LendingDesk x = oneBorrower(0);
        x.lend(0, 0, 10, 60, 60);
        x.setPrice(0, 6);
        C.same("the interest of the day makes the debt greater", x.pass(1), 1);
        C.same("and counts for the loss", x.losses(), 1);
        LendingDesk late = loanFor(100, 1);
        late.setPrice(0, 1);
        late.pledge(0, 0, 13);
        C.same("a default after the due day", late.pass(2), 1);
        C.same("the interest of the last day is taken too", late.stock(0), 102);
        C.same("and nothing more", late.units(0, 0), 6);
        sentence("First, the day increases by 1.");
        LendingDesk y = loanFor(10, 1);
        y.pass(1);
        C.same("day", y.day(), 1);
        y.pass(60);
        C.same("day", y.day(), 61);
        interestOfADay();
        checksOfADay();
    }

    /** A loan against 90 units of kind 0, of which the borrower has 18 more. */
    private static LendingDesk loanFor(int principal, int term) {
        LendingDesk x = new LendingDesk();
        x.addBorrower(0);
        x.bring(0, 0, 99);
        x.bring(0, 0, 9);
        x.lend(0, 0, 90, principal, term);
        return x;
    }

    private static void interestOfADay() {
        sentence("Second, the accrued interest of every loan increases by its principal times its rate, divided by 1000"
                + " and rounded up.");
        int[][] atRate10 = {{1, 1}, {99, 1}, {100, 1}, {101, 2}, {199, 2}, {200, 2}, {201, 3}, {499, 5}, {500, 5}};
        for (int[] row : atRate10) {
            LendingDesk x = loanFor(row[0], 60);
            x.pass(1);
            C.same("interest of " + row[0] + " at 10", x.interest(0), row[1]);
            x.pass(2);
            C.same("interest of " + row[0] + " at 10 for 3 days", x.interest(0), 3 * row[1]);
        }
        int[][] atRate15 = {{1, 1}, {66, 1}, {67, 2}, {133, 2}, {134, 3}, {199, 3}, {200, 3}, {201, 4}, {466, 7}, {467, 8}};
        for (int[] row : atRate15) {
            LendingDesk x = oneBorrower(0);
            x.lend(0, 0, 1, 1, 60);
            x.lend(0, 1, 90, row[0], 60);
            x.pass(1);
            C.same("interest of " + row[0] + " at 15", x.interest(1), row[1]);
            C.same("interest of the other loan", x.interest(0), 1);
        }
        LendingDesk x = loanFor(101, 60);
        x.pass(1);
        x.repay(0, 3);
        x.pass(1);
        C.same("interest of the principal that is left", x.interest(0), 1);
        LendingDesk y = loanFor(100, 60);
        y.pass(1);
        y.pass(1);
        C.same("interest bears no interest", y.interest(0), 2);
    }

    private static void checksOfADay() {
        sentence("Third, the loans are checked in the order of their ids: a loan defaults if the day is greater than its"
                + " due day, or if its debt is greater than its collateral value.");
        LendingDesk x = loanFor(10, 3);
        C.same("the day before the due day", x.pass(2), 0);
        C.same("the due day", x.pass(1), 0);
        C.same("the day after", x.pass(1), 1);
        for (int value = 100; value <= 102; value++) {
            LendingDesk y = oneBorrower(0);
            y.lend(0, 0, 20, 100, 60);
            y.pledge(0, 1, 1);
            y.setPrice(0, 1);
            y.pledge(0, 0, 20);
            y.setPrice(1, value - 40);
            C.same("a debt of 101 and a value of " + value, y.pass(1), value < 101 ? 1 : 0);
        }
        int[][] terms = {{1, 9, 1, 9}, {9, 1, 1, 9}, {1, 1, 9, 1}, {9, 9, 9, 1}, {1, 9, 9, 9}};
        for (int[] row : terms) {
            LendingDesk z = oneBorrower(0);
            int due = 0;
            for (int i = 0; i < 4; i++) {
                z.lend(0, i, 9, 20, row[i]);
                due += row[i] == 1 ? 1 : 0;
            }
            C.same("several defaults on a day", z.pass(2), due);
            for (int i = 0; i < 4; i++) {
                C.same("exists", z.exists(i), row[i] == 9);
            }
        }
    }

    private static void defaults() {
        section("Defaults");
        sentence("When a loan defaults, the desk takes units of its collateral into the stock, one unit after the other,"
                + " first of kind 0, then of kind 1 and so on, until the units that were taken are worth at least the"
                + " debt or no units are left.");
        taken(49, new int[] {9, 9, 9, 9}, new int[] {5, 0, 0, 0});
        taken(50, new int[] {9, 9, 9, 9}, new int[] {5, 0, 0, 0});
        taken(51, new int[] {9, 9, 9, 9}, new int[] {6, 0, 0, 0});
        taken(50, new int[] {5, 9, 9, 9}, new int[] {5, 0, 0, 0});
        taken(51, new int[] {5, 9, 9, 9}, new int[] {5, 1, 0, 0});
        taken(50, new int[] {0, 4, 9, 9}, new int[] {0, 4, 1, 0});
        taken(50, new int[] {0, 0, 0, 9}, new int[] {0, 0, 0, 5});
        taken(80, new int[] {2, 2, 2, 9}, new int[] {2, 2, 2, 2});
        taken(81, new int[] {2, 2, 2, 9}, new int[] {2, 2, 2, 3});
        cheapGoods();
        sentence("The units that are left pass to the borrower.");
        for (int debt = 49; debt <= 51; debt++) {
            LendingDesk x = inDefault(debt, new int[] {5, 6, 7, 8});
            int[] due = {85, debt > 50 ? 89 : 90, 90, 90};
            for (int kind = 0; kind < 4; kind++) {
                C.same("units of kind " + kind + " after a debt of " + debt, x.units(0, kind), due[kind]);
                C.same("units of the other borrower", x.units(1, kind), 90);
            }
        }
        losses();
    }

    /** Loan 0 of borrower 0 defaulted on day 2 with this debt and this collateral, at prices of 10. */
    private static LendingDesk inDefault(int debt, int[] collateral) {
        LendingDesk x = twoBorrowers();
        x.lend(0, 3, 30, debt - 2, 1);
        for (int kind = 0; kind < 3; kind++) {
            if (collateral[kind] > 0) {
                x.pledge(0, kind, collateral[kind]);
            }
        }
        x.setPrice(0, 99);
        x.setPrice(1, 99);
        x.setPrice(2, 99);
        x.setPrice(3, 99);
        if (collateral[3] < 30) {
            x.release(0, 3, 30 - collateral[3]);
        }
        for (int kind = 0; kind < 4; kind++) {
            x.setPrice(kind, 10);
        }
        C.same("no default before", x.pass(1), 0);
        C.same("debt before the last day", x.debt(0), debt - 1);
        C.same("the default", x.pass(1), 1);
        return x;
    }

    private static void taken(int debt, int[] collateral, int[] due) {
        LendingDesk x = inDefault(debt, collateral);
        for (int kind = 0; kind < 4; kind++) {
            C.same("units of kind " + kind + " taken for " + debt, x.stock(kind), due[kind]);
        }
    }

    /** No units are left before they are worth the debt, and the price of the kind decides. */
    private static void cheapGoods() {
        LendingDesk x = oneBorrower(0);
        x.lend(0, 0, 9, 60, 60);
        x.pledge(0, 2, 3);
        x.setPrice(0, 3);
        x.setPrice(2, 10);
        x.pass(1);
        C.same("all of kind 0", x.stock(0), 9);
        C.same("all of kind 2", x.stock(2), 3);
        C.same("no units are left", x.units(0, 0) + x.units(0, 2), 81 + 87);
        LendingDesk y = oneBorrower(0);
        y.lend(0, 1, 30, 48, 1);
        y.pledge(0, 0, 1);
        y.setPrice(0, 49);
        y.setPrice(1, 7);
        y.pass(2);
        C.same("a dear unit", y.stock(0), 1);
        C.same("a cheap unit for the last coin", y.stock(1), 1);
    }

    private static void losses() {
        sentence("The loss of the default is the debt minus the value of the units that were taken, but at least 0.");
        for (int value = 49; value <= 53; value++) {
            LendingDesk x = oneBorrower(0);
            x.lend(0, 0, 20, 50, 60);
            x.pledge(0, 1, 1);
            x.setPrice(0, 1);
            x.setPrice(1, value - 20);
            C.same("pass", x.pass(1), value < 51 ? 1 : 0);
            C.same("losses", x.losses(), value < 51 ? 51 - value : 0);
        }
        for (int debt = 49; debt <= 51; debt++) {
            C.same("losses by the term", inDefault(debt, new int[] {9, 0, 0, 9}).losses(), 0);
        }
        sentence("The number of defaults of the borrower increases by 1.");
        LendingDesk x = inDefault(50, new int[] {9, 0, 0, 9});
        C.same("defaults", x.defaults(0), 1);
        C.same("defaults of the other borrower", x.defaults(1), 0);
        x.lend(0, 3, 9, 5, 1);
        x.pass(1);
        C.same("defaults on the due day", x.defaults(0), 1);
        x.pass(1);
        C.same("defaults after it", x.defaults(0), 2);
        sentence("The loan does not exist any more.");
        C.no("exists", x.exists(0));
        C.no("exists", x.exists(1));
        C.same("loanCount", x.loanCount(), 0);
        refuses(x, Checks.MISSING, "debt", y -> y.debt(0));
    }

    // ---- the ledger ----

    private static void ledger() {
        section("Ledger");
        sentence("When a loan is repaid in part or completely, the coins are entered into the ledger under the present"
                + " day and the id of the loan.");
        LendingDesk x = twoBorrowers();
        x.lend(0, 0, 20, 40, 60);
        x.lend(1, 0, 20, 40, 60);
        C.same("ledgerSize", x.ledgerSize(), 0);
        x.repay(1, 1);
        C.same("in part", x.ledgerAmount(0, 1), 1);
        x.pass(1);
        x.repay(0, 41);
        C.same("completely", x.ledgerAmount(1, 0), 41);
        refuses(x, Checks.STATE, "a repayment that is refused", y -> y.repay(1, 999));
        C.same("ledgerSize", x.ledgerSize(), 2);
        sentence("Repayments of the same loan on the same day are added up in one entry.");
        LendingDesk y = twoBorrowers();
        y.lend(0, 0, 20, 40, 60);
        y.lend(1, 0, 20, 40, 60);
        y.repay(0, 1);
        y.repay(0, 2);
        C.same("the same loan and day", y.ledgerSize(), 1);
        C.same("added up", y.ledgerAmount(0, 0), 3);
        y.repay(1, 4);
        C.same("another loan", y.ledgerSize(), 2);
        y.pass(1);
        y.repay(0, 8);
        C.same("another day", y.ledgerSize(), 3);
        y.repay(1, 16);
        y.repay(0, 5);
        C.same("ledgerAmount", y.ledgerAmount(0, 0), 3);
        C.same("ledgerAmount", y.ledgerAmount(0, 1), 4);
        C.same("ledgerAmount", y.ledgerAmount(1, 0), 13);
        C.same("ledgerAmount", y.ledgerAmount(1, 1), 16);
        sentence("The entries are ordered by the time at which they were created.");
        int[][] due = {{0, 0}, {0, 1}, {1, 0}, {1, 1}};
        for (int i = 0; i < 4; i++) {
            C.same("ledgerDay", y.ledgerDay(i), due[i][0]);
            C.same("ledgerLoan", y.ledgerLoan(i), due[i][1]);
        }
        fullLedger();
    }

    private static void fullLedger() {
        sentence("The ledger holds at most 20 entries; when a further entry is created, the oldest one is removed.");
        LendingDesk x = oneBorrower(500);
        x.lend(0, 0, 90, 400, 60);
        for (int i = 1; i <= 19; i++) {
            x.repay(0, i);
            C.same("ledgerSize", x.ledgerSize(), i);
            x.pass(1);
        }
        x.repay(0, 20);
        C.same("20 entries", x.ledgerSize(), 20);
        C.same("the oldest entry", x.ledgerAmount(0, 0), 1);
        x.repay(0, 30);
        C.same("an entry that grows removes none", x.ledgerAmount(0, 0), 1);
        C.same("20 entries", x.ledgerSize(), 20);
        x.pass(1);
        C.same("a day removes none", x.ledgerAmount(0, 0), 1);
        x.repay(0, 21);
        C.same("20 entries", x.ledgerSize(), 20);
        refuses(x, Checks.MISSING, "the oldest entry", y -> y.ledgerAmount(0, 0));
        for (int i = 0; i < 20; i++) {
            C.same("ledgerDay", x.ledgerDay(i), i + 1);
            C.same("ledgerAmount", x.ledgerAmount(i + 1, 0), i == 18 ? 50 : i + 2);
        }
        x.pass(1);
        x.repay(0, 22);
        refuses(x, Checks.MISSING, "the next oldest entry", y -> y.ledgerAmount(1, 0));
        C.same("the one behind it", x.ledgerAmount(2, 0), 3);
        twoLoansInTheLedger();
    }

    private static void twoLoansInTheLedger() {
        LendingDesk x = oneBorrower(500);
        x.lend(0, 0, 90, 100, 60);
        x.lend(0, 1, 90, 100, 60);
        for (int i = 0; i < 30; i++) {
            x.repay(i % 2, 1 + i);
            x.undo();
            x.repay(i % 2, 1);
            int size = Math.min(i + 1, 20);
            C.same("ledgerSize", x.ledgerSize(), size);
            for (int k = 0; k < size; k++) {
                C.same("ledgerLoan", x.ledgerLoan(k), (i + 1 - size + k) % 2);
                C.same("ledgerDay", x.ledgerDay(k), (i + 1 - size + k) / 2);
            }
            if (i % 2 == 1) {
                x.pass(1);
            }
        }
        C.same("ledgerOf", x.ledgerOf(0), 10);
        C.same("ledgerOf", x.ledgerOf(1), 10);
    }

    // ---- commands, undo, errors ----

    private static void commands() {
        section("Commands");
        sentence("The input buffer holds up to 60 characters.");
        LendingDesk x = new LendingDesk();
        for (int i = 1; i <= 60; i++) {
            C.same("append", x.append('x'), i);
        }
        C.refuses(Checks.STATE, "append of a 61st", () -> x.append('x'));
        sentence("program = command { \";\" command }");
        takesProgram("days 1", 1);
        takesProgram("days 1;days 2", 2);
        takesProgram("days 1;days 1;days 1;days 1;days 1;days 1;days 1;days 1", 8);
        for (String text : new String[] {"", ";", "days 1;", ";days 1", "days 1;;days 1", "days 1,days 1", "days 1 ",
            "days 1; days 1"}) {
            malformed(text);
        }
        sentence("command = \"borrower \" number | \"bring \" digit \" \" digit \" \" number | \"price \" digit \" \""
                + " number | \"lend \" digit \" \" digit \" \" number \" \" number \" \" number | \"pledge \" number"
                + " \" \" digit \" \" number | \"release \" number \" \" digit \" \" number | \"repay \" number \" \""
                + " number | \"buy \" digit \" \" digit \" \" number | \"days \" number");
        for (String text : COMMANDS) {
            takesCommand(text);
        }
        numbers();
        sentence("The commands correspond to the methods addBorrower, bring, setPrice, lend, pledge, release, repay, buy"
                + " and pass, with the arguments in the same order.");
        allCommands();
        errorPositions();
        keywords();
    }

    /** Each command, with the longest numbers. */
    private static final String[] COMMANDS = {"borrower 999", "bring 9 9 999", "price 9 999", "lend 9 9 999 999 999",
        "pledge 999 9 999", "release 999 9 999", "repay 999 999", "buy 9 9 999", "days 999"};

    private static void takesProgram(String text, int commands) {
        C.same("run of '" + text + "'", runOf(new LendingDesk(), text), commands);
    }

    private static void malformed(String text) {
        C.refuses(Checks.ARGUMENT, "run of '" + text + "'", () -> runOf(new LendingDesk(), text));
    }

    /** It is well-formed, though it fails; with an argument more or less, a blank more or less, or a digit more not. */
    private static void takesCommand(String text) {
        C.refuses(Checks.STATE, "run of '" + text + "'", () -> runOf(new LendingDesk(), text));
        malformed(text + " 1");
        malformed(text.substring(0, text.lastIndexOf(' ')));
        malformed(text.substring(text.indexOf(' ') + 1));
        for (int i = 0; i < text.length(); i++) {
            if (text.charAt(i) == ' ') {
                malformed(text.substring(0, i) + text.substring(i + 1));
                malformed(text.substring(0, i) + "  " + text.substring(i + 1));
            } else if (Character.isDigit(text.charAt(i))) {
                malformed(text.substring(0, i) + '0' + text.substring(i));
            }
        }
    }

    private static void numbers() {
        sentence("number = digit | digit digit | digit digit digit");
        for (String number : new String[] {"1", "9", "01", "10", "60", "001", "060"}) {
            LendingDesk x = new LendingDesk();
            C.same("days " + number, runOf(x, "days " + number), 1);
            C.same("day", x.day(), Integer.parseInt(number));
        }
        for (String number : new String[] {"", "0001", "0060", "-1", "+1", "1.", "a", "1a", "x1"}) {
            malformed("days " + number);
        }
        LendingDesk x = new LendingDesk();
        runOf(x, "borrower 500");
        C.same("a number of three digits", x.coins(0), 500);
        for (String number : new String[] {"0", "00", "000", "61", "999"}) {
            C.refuses(Checks.STATE, "days " + number, () -> runOf(x, "days " + number));
        }
    }

    private static void allCommands() {
        LendingDesk byCall = someLoans();
        byCall.addBorrower(1);
        byCall.bring(2, 3, 12);
        byCall.setPrice(1, 12);
        byCall.lend(2, 3, 11, 13, 14);
        byCall.pledge(3, 2, 4);
        byCall.release(3, 0, 2);
        byCall.repay(3, 4);
        byCall.buy(0, 2, 3);
        byCall.pass(5);
        LendingDesk byCommand = someLoans();
        for (String text : new String[] {"borrower 1", "bring 2 3 12", "price 1 12", "lend 2 3 11 13 14", "pledge 3 2 4",
            "release 3 0 2", "repay 3 4", "buy 0 2 3", "days 5"}) {
            C.same("run of " + text, runOf(byCommand, text), 1);
        }
        C.same("picture", Picture.of(byCommand), Picture.of(byCall));
    }

    private static void errorPositions() {
        sentence("The error position of a malformed program is the index of the first character that no valid program"
                + " can have there after the characters before it, or the length of the program if it is a proper prefix"
                + " of a valid program.");
        for (String text : COMMANDS) {
            for (int i = 0; i < text.length(); i++) {
                // A wrong character, with a right and with a wrong rest behind it.
                errorAt(text.substring(0, i) + '~' + text.substring(i + 1), i);
                errorAt(text.substring(0, i) + "~~", i);
                errorAt("days 1;" + text.substring(0, i) + '~', 7 + i);
                // A prefix may be a valid program itself when its last number may be shorter.
                if (i + 2 < text.length()) {
                    errorAt(text.substring(0, i), i);
                    errorAt("days 60;" + text.substring(0, i), 8 + i);
                }
            }
            errorAt(text + "9", text.length());
            errorAt(text + " ", text.length());
            errorAt(text + ";", text.length() + 1);
            errorAt(text + ";;", text.length() + 1);
        }
        errorAt("", 0);
        errorAt("bi", 1);
        errorAt("brx", 2);
        errorAt("bou", 2);
        errorAt("prx", 2);
        errorAt("plx", 2);
        errorAt("rexa", 2);
        errorAt("relay 1 1", 3);
        errorAt("lend 10 0 1 1 1", 6);
        errorAt("pledge 1000 0 1", 10);
        errorAt("repay 1 1;repay 1 1;repay 1 1;repay 1 1;repay 1 1;repay 1 1;", 60);
        errorAt("repay 1 1;repay 1 1;repay 1 1;repay 1 1;repay 1 1;repay 1 1x", 59);
    }

    private static void errorAt(String text, int due) {
        LendingDesk x = new LendingDesk();
        C.refuses(Checks.ARGUMENT, "run of '" + text + "'", () -> runOf(x, text));
        C.same("errorPosition of '" + text + "'", Checks.answerOf(x::errorPosition), Integer.toString(due));
    }

    private static void keywords() {
        sentence("Keywords are matched letter by letter.");
        for (String text : COMMANDS) {
            int length = text.indexOf(' ');
            String upper = text.substring(0, 1).toUpperCase() + text.substring(1);
            errorAt(upper, 0);
            errorAt(text.substring(0, length - 1) + Character.toUpperCase(text.charAt(length - 1)), length - 1);
            errorAt(text.substring(0, length) + "s" + text.substring(length), length);
            errorAt(text.substring(0, length) + text.substring(length + 1), length);
        }
        errorAt("day 1", 3);
        errorAt("pass 1", 1);
    }

    private static void undo() {
        section("Undo");
        sentence("The calls of the methods to which commands correspond, and of run, that return normally are changes,"
                + " even if they have no effect.");
        LendingDesk x = new LendingDesk();
        x.setPrice(0, 10);
        C.same("setPrice to the same price", x.undoableCount(), 1);
        runOf(x, "price 0 10");
        C.same("run without effect", x.undoableCount(), 2);
        for (Consumer<LendingDesk> change : changes()) {
            LendingDesk y = someLoans();
            y.setPrice(0, 11);
            String earlier = withoutUndo(y);
            change.accept(y);
            C.no("there is a change", withoutUndo(y).equals(earlier));
            C.same("undo", y.undo(), 7);
            C.same("picture after undo", withoutUndo(y), earlier);
        }
        C.refuses(Checks.ARGUMENT, "a malformed run", () -> runOf(x, "price"));
        C.refuses(Checks.STATE, "a run that fails", () -> runOf(x, "price 0 9;price 0 0"));
        C.refuses(Checks.ARGUMENT, "setPrice", () -> x.setPrice(0, 100));
        x.save();
        x.append('x');
        C.same("what is no change", x.undoableCount(), 2);
        sentence("Up to 8 changes can be undone, the latest change first.");
        for (int changes = 7; changes <= 10; changes++) {
            LendingDesk y = new LendingDesk();
            for (int i = 1; i <= changes; i++) {
                y.setPrice(0, 20 + i);
            }
            int undoable = Math.min(changes, 8);
            C.same("undoableCount", y.undoableCount(), undoable);
            for (int i = 1; i <= undoable; i++) {
                C.same("undo", y.undo(), undoable - i);
                C.same("price", y.price(0), i == changes ? 10 : 20 + changes - i);
            }
            refuses(y, Checks.STATE, "one more", LendingDesk::undo);
        }
        undoLeaves();
    }

    /** A call of each method that makes changes. */
    private static List<Consumer<LendingDesk>> changes() {
        return List.of(y -> y.addBorrower(0), y -> y.bring(1, 0, 1), y -> y.setPrice(0, 12), y -> y.lend(1, 0, 1, 1, 1),
                y -> y.pledge(3, 2, 1), y -> y.release(3, 2, 1), y -> y.repay(3, 1), y -> y.repay(1, 42),
                y -> y.buy(0, 2, 1), y -> y.pass(1), y -> y.pass(60), y -> runOf(y, "bring 1 0 1;repay 3 2;days 50"));
    }

    private static void undoLeaves() {
        sentence("Undo does not affect the input buffer, the error position, the index of the failed command, the"
                + " formatted line, or the saved copy.");
        LendingDesk x = oneLoan();
        C.refuses(Checks.ARGUMENT, "a malformed run", () -> runOf(x, "dayz"));
        C.refuses(Checks.STATE, "a run that fails", () -> runOf(x, "days 1;days 0"));
        x.pass(1);
        x.formatLoan(0);
        x.save();
        x.pass(1);
        type(x, "day");
        runOf(x, "s 1");
        type(x, "days");
        x.undo();
        x.undo();
        x.undo();
        C.same("day", x.day(), 0);
        C.same("the input buffer", x.append(' '), 5);
        C.same("the error position", x.errorPosition(), 3);
        C.same("the index of the failed command", x.failedCommand(), 1);
        C.same("the formatted line", Picture.lineOf(x), "L0 b0 100+1 @10 d10 1x20");
        C.same("the program in the buffer", runOf(x, "9"), 1);
        C.same("the saved copy", x.restore(), 1);
        C.same("its day", x.day(), 1);
    }

    private static void errors() {
        section("Errors");
        sentence("A method that throws an exception leaves everything unchanged, unless its description says otherwise.");
        refusalsOfEveryMethod();
        sentence("If several conditions of a method apply, the exception that is listed first is thrown.");
        severalConditions();
    }

    /** someLoans() with 6 borrowers, 999 units of kind 3 of borrower 5, a line, and a program in the buffer. */
    private static LendingDesk crowded() {
        LendingDesk x = someLoans();
        for (int b = 2; b < 6; b++) {
            x.addBorrower(0);
        }
        for (int i = 0; i < 10; i++) {
            x.bring(5, 3, 99);
        }
        x.bring(5, 3, 9);
        x.formatLoan(1);
        type(x, "days 1");
        return x;
    }

    private static void refusalsOfEveryMethod() {
        LendingDesk x = crowded();
        C.same("save", x.save(), 2);
        refuses(x, Checks.ARGUMENT, "addBorrower", y -> y.addBorrower(501));
        refuses(x, Checks.STATE, "addBorrower", y -> y.addBorrower(0));
        refuses(x, Checks.INDEX, "bring", y -> y.bring(6, 0, 1));
        refuses(x, Checks.ARGUMENT, "bring", y -> y.bring(0, 0, 0));
        refuses(x, Checks.STATE, "bring", y -> y.bring(5, 3, 1));
        refuses(x, Checks.INDEX, "setPrice", y -> y.setPrice(4, 9));
        refuses(x, Checks.ARGUMENT, "setPrice", y -> y.setPrice(0, 100));
        refuses(x, Checks.INDEX, "lend", y -> y.lend(6, 0, 1, 1, 1));
        refuses(x, Checks.ARGUMENT, "lend", y -> y.lend(0, 0, 1, 1, 61));
        refuses(x, Checks.STATE, "lend", y -> y.lend(0, 0, 1, 7, 1));
        refuses(x, Checks.MISSING, "pledge", y -> y.pledge(2, 0, 1));
        refuses(x, Checks.INDEX, "pledge", y -> y.pledge(1, 4, 1));
        refuses(x, Checks.ARGUMENT, "pledge", y -> y.pledge(1, 0, 100));
        refuses(x, Checks.STATE, "pledge", y -> y.pledge(1, 0, 99));
        refuses(x, Checks.MISSING, "release", y -> y.release(2, 0, 1));
        refuses(x, Checks.INDEX, "release", y -> y.release(1, 4, 1));
        refuses(x, Checks.ARGUMENT, "release", y -> y.release(1, 0, 0));
        refuses(x, Checks.STATE, "release", y -> y.release(1, 0, 6));
        refuses(x, Checks.MISSING, "repay", y -> y.repay(2, 1));
        refuses(x, Checks.ARGUMENT, "repay", y -> y.repay(1, 1000));
        refuses(x, Checks.STATE, "repay", y -> y.repay(1, 43));
        refuses(x, Checks.INDEX, "buy", y -> y.buy(6, 0, 1));
        refuses(x, Checks.ARGUMENT, "buy", y -> y.buy(0, 0, 0));
        refuses(x, Checks.STATE, "buy", y -> y.buy(0, 2, 5));
        refuses(x, Checks.ARGUMENT, "pass", y -> y.pass(61));
        refusalsOfQuestions(x);
        C.same("the input buffer", x.run(), 1);
        C.same("what can be undone", x.undo(), 7);
        C.same("the saved copy", x.restore(), 2);
    }

    private static void refusalsOfQuestions(LendingDesk x) {
        refuses(x, Checks.INDEX, "idAt", y -> y.idAt(2));
        refuses(x, Checks.ARGUMENT, "interestAfter", y -> y.interestAfter(1, 61));
        refuses(x, Checks.MISSING, "greatestPrincipal", y -> y.greatestPrincipal(2, 0, 1));
        refuses(x, Checks.MISSING, "daysToDefaultByDays", y -> y.daysToDefaultByDays(2));
        refuses(x, Checks.MISSING, "loanByDebt", y -> y.loanByDebt(2));
        refuses(x, Checks.MISSING, "ledgerAmount", y -> y.ledgerAmount(0, 1));
        refuses(x, Checks.MISSING, "formatLoan", y -> y.formatLoan(2));
        refuses(x, Checks.INDEX, "lineChar", y -> y.lineChar(60));
        refuses(x, Checks.ARGUMENT, "append", y -> y.append((char) 127));
    }

    private static void severalConditions() {
        LendingDesk x = crowded();
        refuses(x, Checks.ARGUMENT, "addBorrower", y -> y.addBorrower(501));
        refuses(x, Checks.INDEX, "bring", y -> y.bring(6, 4, 0));
        refuses(x, Checks.INDEX, "bring", y -> y.bring(5, 4, 100));
        refuses(x, Checks.ARGUMENT, "bring", y -> y.bring(5, 3, 100));
        refuses(x, Checks.INDEX, "setPrice", y -> y.setPrice(4, 100));
        refuses(x, Checks.INDEX, "lend", y -> y.lend(6, 4, 100, 501, 61));
        refuses(x, Checks.INDEX, "lend", y -> y.lend(2, 4, 0, 0, 0));
        refuses(x, Checks.ARGUMENT, "lend", y -> y.lend(2, 0, 100, 1, 1));
        refuses(x, Checks.ARGUMENT, "lend", y -> y.lend(2, 0, 1, 501, 1));
        refuses(x, Checks.ARGUMENT, "lend", y -> y.lend(2, 0, 1, 1, 61));
        refuses(x, Checks.MISSING, "pledge", y -> y.pledge(2, 4, 100));
        refuses(x, Checks.INDEX, "pledge", y -> y.pledge(1, 4, 100));
        refuses(x, Checks.ARGUMENT, "pledge", y -> y.pledge(1, 0, 100));
        refuses(x, Checks.MISSING, "release", y -> y.release(2, 4, 100));
        refuses(x, Checks.INDEX, "release", y -> y.release(1, 4, 100));
        refuses(x, Checks.ARGUMENT, "release", y -> y.release(1, 0, 100));
        refuses(x, Checks.MISSING, "repay", y -> y.repay(2, 1000));
        refuses(x, Checks.ARGUMENT, "repay", y -> y.repay(1, 1000));
        refuses(x, Checks.INDEX, "buy", y -> y.buy(6, 4, 100));
        refuses(x, Checks.INDEX, "buy", y -> y.buy(5, 4, 100));
        refuses(x, Checks.ARGUMENT, "buy", y -> y.buy(5, 3, 100));
        refuses(x, Checks.MISSING, "collateral", y -> y.collateral(2, 4));
        refuses(x, Checks.MISSING, "missingUnits", y -> y.missingUnits(2, 4));
        refuses(x, Checks.MISSING, "interestAfter", y -> y.interestAfter(2, 61));
        refuses(x, Checks.INDEX, "greatestPrincipal", y -> y.greatestPrincipal(6, 4, 100));
        refuses(x, Checks.INDEX, "greatestPrincipal", y -> y.greatestPrincipal(2, 4, 0));
        refuses(x, Checks.ARGUMENT, "greatestPrincipal", y -> y.greatestPrincipal(2, 0, 100));
        type(x, " ".repeat(54));
        refuses(x, Checks.STATE, "append", y -> y.append('~'));
        refuses(x, Checks.ARGUMENT, "append", y -> y.append((char) 127));
    }
}
