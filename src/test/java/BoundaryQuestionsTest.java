/** Promises 11 to 55, sentence by sentence. */
public final class BoundaryQuestionsTest extends BoundaryBase {
    private static final String NO_KIND = "Throws `IndexOutOfBoundsException` if there is no such kind";
    private static final String NO_BORROWER = "Throws `IndexOutOfBoundsException` if there is no such borrower";
    private static final String NO_BORROWER_OR_KIND =
            "Throws `IndexOutOfBoundsException` if there is no such borrower or kind";
    private static final String NO_LOAN = "Throws `NoSuchElementException` if no loan has this id";
    private static final String NO_POSITION = "Throws `NoSuchElementException` if the ledger has no such position";

    private BoundaryQuestionsTest() {
    }

    public static void main(String[] args) {
        theDesk();
        borrowersAndGoods();
        defaultsAndDebts();
        wealth();
        whichLoans();
        ofALoan();
        ofItsCollateral();
        daysToDefault();
        daysToDefaultByDays();
        interestAfter();
        greatestPrincipal();
        riskiest();
        loanByDebt();
        theLedger();
        ledgerPositions();
        countsSoFar();
        totals();
        shares();
        isBalanced();
        finishPromises(11, 55);
    }

    // ---- promises 11 to 17 ----

    private static void theDesk() {
        section("Promise 11");
        sentence("Returns the day.");
        LendingDesk x = new LendingDesk();
        C.same("day", x.day(), 0);
        x.pass(1);
        C.same("day", x.day(), 1);
        x.pass(60);
        C.same("day", x.day(), 61);
        section("Promise 12");
        sentence("Returns the price of a kind.");
        for (int kind = 0; kind < 4; kind++) {
            C.same("price at first", x.price(kind), 10);
            x.setPrice(kind, 20 + kind);
        }
        sentence("Returns the price in coins.");
        for (int kind = 0; kind < 4; kind++) {
            C.same("price", x.price(kind), 20 + kind);
        }
        x.setPrice(0, 1);
        C.same("the least price", x.price(0), 1);
        x.setPrice(0, 99);
        C.same("the greatest price", x.price(0), 99);
        sentence(NO_KIND);
        kinds("price", LendingDesk::new, LendingDesk::price);
        section("Promise 13");
        sentence("Returns the capital of the desk.");
        LendingDesk y = oneBorrower(500);
        C.same("capital", y.capital(), 1000);
        y.lend(0, 0, 90, 500, 60);
        C.same("capital after a loan", y.capital(), 500);
        sentence("Returns the coins.");
        y.lend(0, 1, 90, 500, 60);
        C.same("no capital", y.capital(), 0);
        y.repay(0, 1);
        C.same("capital after a repayment", y.capital(), 1);
        section("Promise 14");
        sentence("Returns the stock of a kind.");
        for (int kind = 0; kind < 4; kind++) {
            C.same("stock at first", oneLoan().stock(kind), 0);
            C.same("stock after defaults", stocked().stock(kind), 6);
        }
        sentence("Returns the units.");
        LendingDesk z = stocked();
        z.buy(0, 3, 5);
        C.same("a unit", z.stock(3), 1);
        z.buy(0, 3, 1);
        C.same("no unit", z.stock(3), 0);
        C.same("another kind", z.stock(2), 6);
        sentence(NO_KIND);
        kinds("stock", TestBase::stocked, LendingDesk::stock);
    }

    private static void borrowersAndGoods() {
        section("Promise 15");
        sentence("Returns the number of borrowers.");
        LendingDesk x = new LendingDesk();
        C.same("no borrower", x.borrowerCount(), 0);
        for (int b = 1; b <= 6; b++) {
            x.addBorrower(0);
            C.same("borrowerCount", x.borrowerCount(), b);
        }
        sentence("Returns the number.");
        refuses(x, Checks.STATE, "a seventh borrower", y -> y.addBorrower(0));
        C.same("six", x.borrowerCount(), 6);
        x.undo();
        C.same("five after undo", x.borrowerCount(), 5);
        section("Promise 16");
        sentence("Returns the coins of a borrower.");
        C.same("coins", someLoans().coins(0), 110);
        C.same("coins", someLoans().coins(1), 90);
        sentence("Returns the coins.");
        LendingDesk y = new LendingDesk();
        y.addBorrower(0);
        y.addBorrower(500);
        C.same("no coins", y.coins(0), 0);
        C.same("500 coins", y.coins(1), 500);
        sentence(NO_BORROWER);
        borrowers("coins", TestBase::someLoans, LendingDesk::coins);
        section("Promise 17");
        sentence("Returns the units of a kind that a borrower has, without those that are pledged.");
        LendingDesk z = oneBorrower(0);
        z.lend(0, 2, 89, 10, 60);
        C.same("but for 89", z.units(0, 2), 1);
        z.pledge(0, 2, 1);
        C.same("but for 90", z.units(0, 2), 0);
        z.repay(0, 10);
        C.same("with what came back", z.units(0, 2), 90);
        sentence("Returns the units.");
        LendingDesk each = twoBorrowers();
        for (int kind = 0; kind < 4; kind++) {
            each.bring(1, kind, 1 + kind);
            C.same("units", each.units(1, kind), 91 + kind);
            C.same("units of the other borrower", each.units(0, kind), 90);
        }
        sentence(NO_BORROWER_OR_KIND);
        borrowers("units", TestBase::someLoans, (w, b) -> w.units(b, 3));
        kinds("units", TestBase::someLoans, (w, k) -> w.units(1, k));
    }

    // ---- promises 18 to 23 ----

    private static void defaultsAndDebts() {
        section("Promise 18");
        sentence("Returns the units of a kind that are the collateral of all loans of a borrower together.");
        LendingDesk x = someLoans();
        x.lend(0, 0, 7, 5, 60);
        int[][] due = {{32, 5, 5, 5}, {5, 25, 5, 5}};
        for (int b = 0; b < 2; b++) {
            for (int kind = 0; kind < 4; kind++) {
                C.same("pledgedUnits", x.pledgedUnits(b, kind), due[b][kind]);
            }
        }
        sentence("Returns the units.");
        C.same("without loans", twoBorrowers().pledgedUnits(0, 0), 0);
        x.repay(4, 5);
        C.same("after a repayment", x.pledgedUnits(0, 0), 25);
        sentence(NO_BORROWER_OR_KIND);
        borrowers("pledgedUnits", TestBase::someLoans, (w, b) -> w.pledgedUnits(b, 3));
        kinds("pledgedUnits", TestBase::someLoans, (w, k) -> w.pledgedUnits(1, k));
        section("Promise 19");
        sentence("Returns the number of defaults of a borrower.");
        C.same("defaults", someLoans().defaults(0), 1);
        C.same("defaults", someLoans().defaults(1), 0);
        sentence("Returns the number.");
        C.same("defaults", oneLoan().defaults(0), 0);
        C.same("defaults", twoDefaults().defaults(0), 2);
        C.same("defaults", stocked().defaults(0), 4);
        sentence(NO_BORROWER);
        borrowers("defaults", TestBase::someLoans, LendingDesk::defaults);
        section("Promise 20");
        sentence("Returns whether a borrower has fewer than 2 defaults.");
        C.yes("none", oneLoan().canBorrow(0));
        C.yes("one", someLoans().canBorrow(0));
        C.no("two", twoDefaults().canBorrow(0));
        sentence("Returns true if this is so.");
        C.yes("the other borrower", someLoans().canBorrow(1));
        C.no("four", stocked().canBorrow(0));
        LendingDesk full = oneBorrower(0);
        for (int i = 0; i < 10; i++) {
            full.lend(0, 0, 1, 1, 60);
        }
        C.yes("with 10 loans", full.canBorrow(0));
        sentence(NO_BORROWER);
        borrowers("canBorrow", TestBase::someLoans, LendingDesk::canBorrow);
        loansAndDebts();
    }

    private static void loansAndDebts() {
        section("Promise 21");
        sentence("Returns the number of loans of a borrower.");
        LendingDesk x = twoBorrowers();
        for (int i = 0; i < 10; i++) {
            C.same("loansOf", x.loansOf(1), i);
            x.lend(1, 0, 1, 1, 60);
        }
        C.same("ten", x.loansOf(1), 10);
        sentence("Returns the number.");
        C.same("none", x.loansOf(0), 0);
        x.repay(9, 1);
        C.same("after a repayment", x.loansOf(1), 9);
        x.pass(60);
        x.pass(1);
        C.same("after defaults", x.loansOf(1), 0);
        sentence(NO_BORROWER);
        borrowers("loansOf", TestBase::someLoans, LendingDesk::loansOf);
        section("Promise 22");
        sentence("Returns the sum of the debts of all loans of a borrower.");
        LendingDesk y = someLoans();
        y.lend(0, 0, 7, 5, 60);
        C.same("debtOf", y.debtOf(0), 37);
        C.same("debtOf", y.debtOf(1), 42);
        y.pass(1);
        C.same("debtOf with interest", y.debtOf(0), 39);
        sentence("Returns the coins.");
        C.same("no loans", twoBorrowers().debtOf(0), 0);
        y.repay(4, 5);
        C.same("5 coins less", y.debtOf(0), 34);
        y.repay(4, 1);
        C.same("the last coin of a loan", y.debtOf(0), 33);
        sentence(NO_BORROWER);
        borrowers("debtOf", TestBase::someLoans, LendingDesk::debtOf);
    }

    private static void wealth() {
        section("Promise 23");
        sentence("Returns the wealth of a borrower: the coins, plus the value of the units that the borrower has and of"
                + " those that are pledged, minus the debts.");
        LendingDesk x = twoBorrowers();
        C.same("without loans", x.wealth(0), 50 + 3600);
        x.lend(0, 1, 20, 100, 60);
        C.same("a loan changes nothing", x.wealth(0), 50 + 3600);
        x.pass(1);
        C.same("interest", x.wealth(0), 50 + 3600 - 1);
        x.setPrice(1, 11);
        C.same("the price", x.wealth(0), 50 + 3600 + 90 - 1);
        x.repay(0, 50);
        C.same("a repayment changes nothing", x.wealth(0), 50 + 3600 + 90 - 1);
        sentence("Returns the wealth, which can be negative.");
        for (int price = 53; price >= 50; price--) {
            C.same("wealth with a unit worth " + price, poorer(price).wealth(0), price - 52);
        }
        LendingDesk none = new LendingDesk();
        none.addBorrower(0);
        C.same("nothing", none.wealth(0), 0);
        sentence(NO_BORROWER);
        borrowers("wealth", TestBase::someLoans, LendingDesk::wealth);
    }

    /** Borrower 0 has no coins, 8 units of kind 1 that are worth a coin each, and owes 60 for a unit of kind 0. */
    private static LendingDesk poorer(int price) {
        LendingDesk x = new LendingDesk();
        x.addBorrower(0);
        x.addBorrower(0);
        x.bring(0, 0, 1);
        x.bring(1, 1, 10);
        x.lend(1, 1, 10, 58, 1);
        x.pass(2);
        x.setPrice(0, 99);
        x.lend(0, 0, 1, 60, 60);
        x.buy(0, 1, 6);
        x.setPrice(1, 1);
        x.setPrice(0, price);
        x.bring(0, 1, 2);
        C.same("coins", x.coins(0), 0);
        C.same("units", x.units(0, 1), 8);
        C.same("debt", x.debtOf(0), 60);
        return x;
    }

    // ---- promises 24 to 26 ----

    private static void whichLoans() {
        section("Promise 24");
        sentence("Returns the number of loans.");
        LendingDesk x = twoBorrowers();
        for (int i = 0; i < 10; i++) {
            C.same("loanCount", x.loanCount(), i);
            x.lend(i % 2, 0, 1, 1, 60);
        }
        C.same("loanCount", x.loanCount(), 10);
        sentence("Returns the number.");
        refuses(x, Checks.STATE, "an eleventh loan", y -> y.lend(0, 0, 1, 1, 60));
        x.repay(0, 1);
        C.same("after a repayment", x.loanCount(), 9);
        x.pass(60);
        x.pass(1);
        C.same("after defaults", x.loanCount(), 0);
        section("Promise 25");
        sentence("Returns whether a loan exists.");
        LendingDesk z = someLoans();
        boolean[] due = {false, true, false, true, false};
        for (int id = 0; id < 5; id++) {
            C.same("exists(" + id + ")", z.exists(id), due[id]);
        }
        sentence("- `id`: any id");
        for (int id : new int[] {-1, 10, 512, Integer.MIN_VALUE, Integer.MAX_VALUE}) {
            C.no("exists(" + id + ")", z.exists(id));
        }
        sentence("Returns true if a loan has this id.");
        C.no("before", z.exists(4));
        z.lend(0, 0, 1, 1, 60);
        C.yes("after lend", z.exists(4));
        z.undo();
        C.no("after undo", z.exists(4));
        section("Promise 26");
        sentence("Returns the id of a loan by its position in the order of ids.");
        LendingDesk w = someLoans();
        C.same("idAt(0)", w.idAt(0), 1);
        C.same("idAt(1)", w.idAt(1), 3);
        sentence("- `position`: the position, starting at 0");
        takes("idAt", TestBase::someLoans, LendingDesk::idAt, 0, 1);
        sentence("Returns the id.");
        w.lend(1, 0, 1, 1, 60);
        C.same("the new loan is last", w.idAt(2), 4);
        w.repay(1, w.debt(1));
        C.same("the others move on", w.idAt(0), 3);
        C.same("the others move on", w.idAt(1), 4);
        sentence("Throws `IndexOutOfBoundsException` if the position is negative or not less than the number of loans");
        refusesEach(Checks.INDEX, "idAt", TestBase::someLoans, LendingDesk::idAt, -1, 2, 3, 10, Integer.MIN_VALUE,
                Integer.MAX_VALUE);
        refusesEach(Checks.INDEX, "idAt without loans", LendingDesk::new, LendingDesk::idAt, 0);
    }

    // ---- promises 27 to 36 ----

    private static void ofALoan() {
        LendingDesk x = someLoans();
        section("Promise 27");
        sentence("Returns the borrower of a loan.");
        C.same("borrowerOf(1)", x.borrowerOf(1), 1);
        sentence("Returns the borrower.");
        C.same("borrowerOf(3)", x.borrowerOf(3), 0);
        sentence(NO_LOAN);
        ids("borrowerOf", LendingDesk::borrowerOf);
        section("Promise 28");
        sentence("Returns the principal of a loan.");
        C.same("principal", x.principal(1), 40);
        sentence("Returns the coins that are left of the principal.");
        x.repay(1, 2);
        C.same("the interest is paid", x.principal(1), 40);
        x.repay(1, 1);
        C.same("a coin of it is paid", x.principal(1), 39);
        x.repay(1, 38);
        C.same("all but a coin", x.principal(1), 1);
        sentence(NO_LOAN);
        ids("principal", LendingDesk::principal);
        section("Promise 29");
        sentence("Returns the accrued interest of a loan.");
        C.same("interest", x.interest(3), 2);
        sentence("Returns the coins.");
        C.same("none", x.interest(1), 0);
        x.pass(1);
        C.same("of a coin", x.interest(1), 1);
        C.same("another day", x.interest(3), 3);
        sentence(NO_LOAN);
        ids("interest", LendingDesk::interest);
        section("Promise 30");
        sentence("Returns the debt of a loan.");
        C.same("debt", x.debt(1), 2);
        sentence("Returns the coins.");
        C.same("debt", x.debt(3), 33);
        sentence(NO_LOAN);
        ids("debt", LendingDesk::debt);
        section("Promise 31");
        sentence("Returns the rate of a loan.");
        C.same("rate", x.rate(1), 10);
        sentence("Returns the rate.");
        C.same("rate", x.rate(3), 20);
        sentence(NO_LOAN);
        ids("rate", LendingDesk::rate);
        section("Promise 32");
        sentence("Returns the due day of a loan.");
        C.same("dueDay", x.dueDay(1), 50);
        sentence("Returns the day.");
        C.same("dueDay", x.dueDay(3), 40);
        sentence(NO_LOAN);
        ids("dueDay", LendingDesk::dueDay);
    }

    private static void ofItsCollateral() {
        LendingDesk x = someLoans();
        section("Promise 33");
        sentence("Returns the units of a kind in the collateral of a loan.");
        for (int kind = 0; kind < 4; kind++) {
            C.same("collateral", x.collateral(3, kind), kind == 0 ? 25 : 5);
        }
        sentence("Returns the units.");
        x.release(3, 1, 5);
        C.same("none", x.collateral(3, 1), 0);
        C.same("those of the other loan", x.collateral(1, 1), 25);
        sentence(NO_LOAN);
        ids("collateral", (y, id) -> y.collateral(id, 0));
        sentence(NO_KIND);
        kinds("collateral", TestBase::someLoans, (y, k) -> y.collateral(1, k));
        section("Promise 34");
        sentence("Returns the collateral value of a loan.");
        C.same("collateralValue", x.collateralValue(1), 400);
        C.same("collateralValue", x.collateralValue(3), 350);
        sentence("Returns the coins.");
        x.setPrice(0, 1);
        C.same("at the least price", x.collateralValue(3), 25 + 100);
        x.setPrice(0, 99);
        C.same("at the greatest price", x.collateralValue(3), 25 * 99 + 100);
        sentence(NO_LOAN);
        ids("collateralValue", LendingDesk::collateralValue);
        section("Promise 35");
        sentence("Returns whether a loan is covered.");
        LendingDesk y = oneBorrower(0);
        y.lend(0, 0, 3, 20, 60);
        C.yes("60 and 60", y.isCovered(0));
        y.pass(1);
        C.no("63 and 60", y.isCovered(0));
        sentence("Returns true if it is.");
        y.pledge(0, 1, 1);
        y.setPrice(1, 1);
        C.no("63 and 62", y.isCovered(0));
        y.setPrice(1, 2);
        C.yes("63 and 64", y.isCovered(0));
        sentence(NO_LOAN);
        ids("isCovered", LendingDesk::isCovered);
        missingUnits();
    }

    private static void missingUnits() {
        section("Promise 36");
        sentence("Returns how many units of a kind would have to be added to the collateral of a loan so that it is"
                + " covered.");
        // A debt of 100 needs a value of 150; the collateral of kind 1 is worth 140.
        int[][] rows = {{1, 10}, {2, 5}, {3, 4}, {4, 3}, {5, 2}, {9, 2}, {10, 1}, {11, 1}, {99, 1}};
        for (int[] row : rows) {
            LendingDesk x = oneLoan();
            x.setPrice(1, 7);
            x.setPrice(2, row[0]);
            C.same("missingUnits for " + row[0], x.missingUnits(0, 2), row[1]);
            if (row[1] > 1) {
                x.pledge(0, 2, row[1] - 1);
            }
            C.no("one fewer", x.isCovered(0));
            C.same("one is missing", x.missingUnits(0, 2), 1);
            x.pledge(0, 2, 1);
            C.yes("as many", x.isCovered(0));
        }
        sentence("Returns the smallest number of units, 0 if it is covered.");
        LendingDesk y = oneBorrower(0);
        y.lend(0, 0, 3, 20, 60);
        C.same("just covered", y.missingUnits(0, 1), 0);
        y.pass(1);
        C.same("not covered", y.missingUnits(0, 1), 1);
        y.setPrice(1, 1);
        C.same("3 / 2, rounded up", y.missingUnits(0, 1), 2);
        y.pledge(0, 1, 1);
        C.same("1 / 2, rounded up", y.missingUnits(0, 1), 1);
        y.repay(0, 1);
        C.same("covered again", y.missingUnits(0, 1), 0);
        y.setPrice(0, 1);
        C.same("more than the borrower has", oneLoanAtPrice1().missingUnits(0, 1), 130);
        sentence(NO_LOAN);
        ids("missingUnits", (x, id) -> x.missingUnits(id, 0));
        sentence(NO_KIND);
        kinds("missingUnits", TestBase::someLoans, (x, k) -> x.missingUnits(1, k));
        kinds("missingUnits when not covered", BoundaryQuestionsTest::oneLoanAtPrice1, (x, k) -> x.missingUnits(0, k));
    }

    private static LendingDesk oneLoanAtPrice1() {
        LendingDesk x = oneLoan();
        x.setPrice(1, 1);
        return x;
    }

    // ---- promises 37 to 39 ----

    /** Loan 0 bears 2 coins a day for 200, and its collateral has this value. */
    private static LendingDesk worth(int value, int term) {
        LendingDesk x = oneBorrower(0);
        x.lend(0, 0, 90, 200, term);
        x.pledge(0, 1, 1);
        x.pledge(0, 2, 1);
        x.setPrice(0, 1);
        x.setPrice(1, 80);
        x.setPrice(2, value - 170);
        C.same("the value", x.collateralValue(0), value);
        return x;
    }

    /** Loan 0 bears a coin a day for 100, and its collateral has this value. */
    private static LendingDesk coinADay(int value) {
        LendingDesk x = oneBorrower(0);
        x.lend(0, 0, 40, 100, 60);
        x.pledge(0, 1, 1);
        x.setPrice(0, 1);
        x.setPrice(1, value - 40);
        return x;
    }

    /** Both answers, and how many days really pass. */
    private static void defaultsIn(String what, LendingDesk x, int id, int due) {
        C.same("daysToDefault " + what, x.daysToDefault(id), due);
        C.same("daysToDefaultByDays " + what, x.daysToDefaultByDays(id), due);
        for (int day = 1; day <= due; day++) {
            C.yes("exists before day " + day + " " + what, x.exists(id));
            x.pass(1);
        }
        C.no("exists after day " + due + " " + what, x.exists(id));
    }

    private static void daysToDefault() {
        section("Promise 37");
        sentence("Returns after how many days a loan defaults if only days pass, computed from its interest per day and"
                + " its due day.");
        int[][] rows = {{200, 1}, {201, 1}, {202, 2}, {203, 2}, {204, 3}, {218, 10}, {219, 10}, {220, 11}, {222, 12}};
        for (int[] row : rows) {
            defaultsIn("with a value of " + row[0], worth(row[0], 60), 0, row[1]);
        }
        for (int term = 9; term <= 12; term++) {
            defaultsIn("for " + term + " days with a value of 220", worth(220, term), 0, Math.min(term + 1, 11));
        }
        for (int term : new int[] {1, 2, 59, 60}) {
            LendingDesk x = oneBorrower(0);
            x.pass(5);
            x.lend(0, 0, 90, 1, term);
            defaultsIn("for " + term + " days", x, 0, term + 1);
        }
        sentence("Returns the number of days, at least 1.");
        defaultsIn("with a debt above the value", worth(199, 60), 0, 1);
        defaultsIn("with a debt far above the value", worth(171, 60), 0, 1);
        for (int value = 97; value <= 104; value++) {
            defaultsIn("with a coin a day and a value of " + value, coinADay(value), 0, Math.max(1, value - 99));
        }
        LendingDesk y = worth(260, 3);
        y.pass(2);
        C.same("the day before the due day", y.daysToDefault(0), 2);
        y.pass(1);
        C.same("the due day", y.daysToDefault(0), 1);
        sentence(NO_LOAN);
        ids("daysToDefault", LendingDesk::daysToDefault);
    }

    private static void daysToDefaultByDays() {
        section("Promise 38");
        sentence("Returns the same number as daysToDefault, but lets days pass on a copy until the loan does not exist"
                + " any more.");
        LendingDesk x = oneBorrower(0);
        x.lend(0, 0, 30, 20, 1);
        x.lend(0, 1, 30, 20, 60);
        x.lend(0, 2, 10, 60, 60);
        x.setPrice(2, 7);
        String earlier = Picture.of(x);
        for (int id = 0; id < 3; id++) {
            C.same("daysToDefaultByDays", x.daysToDefaultByDays(id), x.daysToDefault(id));
            C.same("picture", Picture.of(x), earlier);
        }
        sentence("Returns the number of days.");
        C.same("by the shortest term", x.daysToDefaultByDays(0), 2);
        C.same("by the longest term", x.daysToDefaultByDays(1), 61);
        C.same("by the interest", x.daysToDefaultByDays(2), 6);
        x.setPrice(2, 5);
        C.same("at least 1", x.daysToDefaultByDays(2), 1);
        sentence(NO_LOAN);
        ids("daysToDefaultByDays", LendingDesk::daysToDefaultByDays);
    }

    private static void interestAfter() {
        section("Promise 39");
        sentence("Returns the accrued interest that a loan would have after a number of days if nothing was repaid and it"
                + " did not default.");
        LendingDesk x = worth(204, 2);
        x.pass(1);
        C.same("now", x.interestAfter(0, 0), 2);
        C.same("a day", x.interestAfter(0, 1), 4);
        C.same("the day of its default", x.interestAfter(0, 2), 6);
        C.same("long after its default", x.interestAfter(0, 60), 122);
        sentence("- `days`: the number of days, 0 to 60");
        takes("interestAfter", TestBase::someLoans, (y, days) -> y.interestAfter(1, days), 0, 1, 59, 60);
        sentence("Returns the coins.");
        LendingDesk z = oneBorrower(0);
        z.lend(0, 0, 30, 101, 60);
        C.same("none", z.interestAfter(0, 0), 0);
        C.same("rounded up each day", z.interestAfter(0, 10), 20);
        z.pass(10);
        C.same("the same days, passed", z.interest(0), 20);
        z.repay(0, 21);
        C.same("of the principal that is left", z.interestAfter(0, 10), 10);
        sentence(NO_LOAN);
        ids("interestAfter", (y, id) -> y.interestAfter(id, 60));
        sentence("Throws `IllegalArgumentException` if the number of days is out of range");
        range("interestAfter", 0, 60, TestBase::someLoans, (y, days) -> y.interestAfter(1, days));
    }

    // ---- promises 40 to 42 ----

    private static void greatestPrincipal() {
        section("Promise 40");
        sentence("Returns the greatest principal with which lend would return normally now, for a borrower, a kind, a"
                + " number of units, and any term.");
        for (int price : new int[] {1, 2, 3, 10, 83, 84, 99}) {
            for (int units : new int[] {1, 2, 3, 4, 9, 74, 75, 76, 89, 90}) {
                LendingDesk x = oneBorrower(0);
                x.setPrice(0, price);
                greatestOf(x, 0, units);
            }
        }
        for (int lent : new int[] {99, 100, 101, 399, 400}) {
            LendingDesk x = oneBorrower(0);
            x.lend(0, 1, 90, 500, 60);
            x.lend(0, 2, 90, lent, 60);
            greatestOf(x, 0, 90);
            greatestOf(x, 0, 15);
        }
        sentence("- `units`: the number of units, 1 to 99");
        LendingDesk many = oneBorrower(0);
        many.bring(0, 0, 9);
        C.same("1 unit", many.greatestPrincipal(0, 0, 1), 6);
        C.same("2 units", many.greatestPrincipal(0, 0, 2), 13);
        C.same("74 units", many.greatestPrincipal(0, 0, 74), 493);
        C.same("75 units", many.greatestPrincipal(0, 0, 75), 500);
        C.same("99 units", many.greatestPrincipal(0, 0, 99), 500);
        sentence("Returns the principal.");
        many.lend(0, 1, 90, 500, 60);
        many.lend(0, 2, 90, 499, 60);
        C.same("the last coin", many.greatestPrincipal(0, 0, 99), 1);
        sentence(NO_BORROWER_OR_KIND);
        borrowers("greatestPrincipal", TestBase::twoBorrowers, (x, b) -> x.greatestPrincipal(b, 0, 1));
        kinds("greatestPrincipal", TestBase::twoBorrowers, (x, k) -> x.greatestPrincipal(1, k, 1));
        sentence("Throws `IllegalArgumentException` if the number of units is out of range");
        takes("greatestPrincipal", BoundaryQuestionsTest::with99, (x, n) -> x.greatestPrincipal(0, 0, n), 1, 2, 98, 99);
        refusesEach(Checks.ARGUMENT, "greatestPrincipal", BoundaryQuestionsTest::with99,
                (x, n) -> x.greatestPrincipal(0, 0, n), -1, 0, 100, Integer.MIN_VALUE, Integer.MAX_VALUE);
        noPrincipal(many);
    }

    private static LendingDesk with99() {
        LendingDesk x = oneBorrower(0);
        x.bring(0, 0, 9);
        return x;
    }

    private static void noPrincipal(LendingDesk lastCoin) {
        sentence("Throws `NoSuchElementException` if there is no such principal");
        lastCoin.lend(0, 0, 1, 1, 60);
        refuses(lastCoin, Checks.MISSING, "without capital", y -> y.greatestPrincipal(0, 0, 98));
        LendingDesk x = oneBorrower(0);
        refuses(x, Checks.MISSING, "on 91 units of 90", y -> y.greatestPrincipal(0, 0, 91));
        C.same("on 90 units of 90", x.greatestPrincipal(0, 0, 90), 500);
        x.setPrice(0, 1);
        refuses(x, Checks.MISSING, "on a value of 1", y -> y.greatestPrincipal(0, 0, 1));
        C.same("on a value of 2", x.greatestPrincipal(0, 0, 2), 1);
        LendingDesk full = oneBorrower(0);
        for (int i = 0; i < 9; i++) {
            full.lend(0, 0, 1, 1, 60);
        }
        C.same("with 9 loans", full.greatestPrincipal(0, 1, 90), 500);
        full.lend(0, 0, 1, 1, 60);
        refuses(full, Checks.MISSING, "with 10 loans", y -> y.greatestPrincipal(0, 1, 90));
        C.same("with a default", someLoans().greatestPrincipal(0, 1, 9), 60);
        refuses(twoDefaults(), Checks.MISSING, "with 2 defaults", y -> y.greatestPrincipal(0, 2, 9));
        refuses(stocked(), Checks.MISSING, "with 4 defaults", y -> y.greatestPrincipal(0, 2, 9));
    }

    /** Tries every principal, from the greatest on. */
    private static void greatestOf(LendingDesk x, int kind, int units) {
        String due = "throws.NoSuchElementException";
        for (int principal = 501; principal >= 1; principal--) {
            int p = principal;
            if (Checks.outcome(() -> x.lend(0, kind, units, p, 60)).equals("returned")) {
                x.undo();
                due = Integer.toString(p);
                break;
            }
        }
        C.same("greatestPrincipal on " + units + " for " + x.price(kind) + " of " + x.capital(),
                Checks.answerOf(() -> x.greatestPrincipal(0, kind, units)), due);
    }

    private static void riskiest() {
        section("Promise 41");
        sentence("Returns the loan that defaults first if only days pass.");
        int[][] rows = {{9, 9, 8, 2}, {9, 8, 9, 1}, {8, 9, 9, 0}, {60, 59, 1, 2}};
        for (int[] row : rows) {
            LendingDesk x = oneBorrower(0);
            for (int i = 0; i < 3; i++) {
                x.lend(0, i, 9, 20, row[i]);
            }
            C.same("riskiest by the terms", x.riskiest(), row[3]);
            x.setPrice(1, 2);
            C.same("riskiest by the value", x.riskiest(), 1);
        }
        sentence("Of several such loans it is the one with the lowest id.");
        LendingDesk x = oneBorrower(0);
        x.lend(0, 0, 9, 20, 9);
        x.lend(0, 1, 9, 20, 8);
        x.lend(0, 2, 9, 20, 8);
        C.same("two of three", x.riskiest(), 1);
        x.setPrice(0, 1);
        x.setPrice(2, 1);
        C.same("0 and 2 at once", x.riskiest(), 0);
        sentence("Returns the id.");
        C.same("riskiest", someLoans().riskiest(), 3);
        C.same("the only one", oneLoan().riskiest(), 0);
        sentence("Throws `NoSuchElementException` if there are no loans");
        refuses(new LendingDesk(), Checks.MISSING, "riskiest", LendingDesk::riskiest);
        refuses(twoDefaults(), Checks.MISSING, "riskiest", LendingDesk::riskiest);
    }

    private static void loanByDebt() {
        section("Promise 42");
        sentence("Returns a loan by its rank in the order of debts: greater debt first, then lower due day, then lower"
                + " id.");
        LendingDesk x = oneBorrower(0);
        int[][] loans = {{20, 9}, {21, 9}, {20, 8}, {19, 1}, {20, 9}, {21, 10}, {20, 8}};
        for (int[] loan : loans) {
            x.lend(0, 0, 5, loan[0], loan[1]);
        }
        int[] due = {1, 5, 2, 6, 0, 4, 3};
        for (int rank = 0; rank < due.length; rank++) {
            C.same("loanByDebt(" + rank + ")", x.loanByDebt(rank), due[rank]);
        }
        sentence("- `rank`: the rank, starting at 0");
        takes("loanByDebt", TestBase::someLoans, LendingDesk::loanByDebt, 0, 1);
        sentence("Returns the id.");
        C.same("loanByDebt(0)", someLoans().loanByDebt(0), 1);
        C.same("loanByDebt(1)", someLoans().loanByDebt(1), 3);
        LendingDesk byInterest = someLoans();
        byInterest.repay(1, 10);
        C.same("32 and 32", byInterest.loanByDebt(0), 3);
        byInterest.repay(3, 1);
        C.same("32 and 31", byInterest.loanByDebt(0), 1);
        sentence("Throws `NoSuchElementException` if there is no such rank");
        refusesEach(Checks.MISSING, "loanByDebt", TestBase::someLoans, LendingDesk::loanByDebt, -1, 2, 3, 10,
                Integer.MIN_VALUE, Integer.MAX_VALUE);
        refusesEach(Checks.MISSING, "loanByDebt without loans", LendingDesk::new, LendingDesk::loanByDebt, 0);
    }

    // ---- promises 43 to 47 ----

    /** Entries of loan 0 on the days 0 .. days - 1, of 1, 2, 3 .. coins. */
    private static LendingDesk entries(int days) {
        LendingDesk x = oneBorrower(500);
        x.lend(0, 0, 90, 400, 60);
        for (int day = 0; day < days; day++) {
            x.repay(0, 1 + day);
            x.pass(1);
        }
        return x;
    }

    private static void theLedger() {
        section("Promise 43");
        sentence("Returns the number of entries in the ledger.");
        C.same("ledgerSize", entries(3).ledgerSize(), 3);
        C.same("ledgerSize", someLoans().ledgerSize(), 1);
        sentence("Returns the number, 0 to 20.");
        for (int days : new int[] {0, 1, 19, 20, 21, 25}) {
            C.same("ledgerSize of " + days, entries(days).ledgerSize(), Math.min(days, 20));
        }
        section("Promise 44");
        sentence("Returns the coins of the ledger entry for a day and a loan.");
        LendingDesk x = entries(25);
        for (int day = 5; day < 25; day++) {
            C.same("ledgerAmount on day " + day, x.ledgerAmount(day, 0), 1 + day);
        }
        sentence("- `day`: any day");
        for (int day : new int[] {-1, 26, Integer.MIN_VALUE, Integer.MAX_VALUE}) {
            refuses(x, Checks.MISSING, "ledgerAmount on day " + day, y -> y.ledgerAmount(day, 0));
        }
        sentence("- `id`: any id");
        for (int id : new int[] {-1, 1, Integer.MIN_VALUE, Integer.MAX_VALUE}) {
            refuses(x, Checks.MISSING, "ledgerAmount of " + id, y -> y.ledgerAmount(9, id));
        }
        sentence("Returns the coins.");
        C.same("of a loan that is repaid", someLoans().ledgerAmount(0, 0), 40);
        LendingDesk added = entries(1);
        added.repay(0, 3);
        added.repay(0, 4);
        C.same("added up", added.ledgerAmount(1, 0), 7);
        sentence("Throws `NoSuchElementException` if the ledger has no such entry");
        refuses(x, Checks.MISSING, "ledgerAmount of what was removed", y -> y.ledgerAmount(4, 0));
        refuses(x, Checks.MISSING, "ledgerAmount of today", y -> y.ledgerAmount(25, 0));
        refuses(someLoans(), Checks.MISSING, "ledgerAmount of another loan", y -> y.ledgerAmount(0, 1));
        refuses(someLoans(), Checks.MISSING, "ledgerAmount of another day", y -> y.ledgerAmount(1, 0));
        refuses(new LendingDesk(), Checks.MISSING, "ledgerAmount of none", y -> y.ledgerAmount(0, 0));
    }

    private static void ledgerPositions() {
        LendingDesk x = someLoans();
        x.repay(3, 1);
        x.repay(1, 1);
        section("Promise 45");
        sentence("Returns the day of a ledger entry by its position in the order of entries.");
        int[][] due = {{0, 0}, {2, 3}, {2, 1}};
        for (int i = 0; i < 3; i++) {
            C.same("ledgerDay", x.ledgerDay(i), due[i][0]);
        }
        sentence("- `position`: the position, starting at 0");
        takes("ledgerDay", () -> entries(3), LendingDesk::ledgerDay, 0, 2);
        takes("ledgerDay of 20", () -> entries(20), LendingDesk::ledgerDay, 0, 19);
        sentence("Returns the day.");
        C.same("the oldest of 20", entries(20).ledgerDay(0), 0);
        C.same("the oldest of 21", entries(21).ledgerDay(0), 1);
        C.same("the newest of 21", entries(21).ledgerDay(19), 20);
        sentence(NO_POSITION);
        noPosition("ledgerDay", LendingDesk::ledgerDay);
        section("Promise 46");
        sentence("Returns the loan of a ledger entry by its position in the order of entries.");
        for (int i = 0; i < 3; i++) {
            C.same("ledgerLoan", x.ledgerLoan(i), due[i][1]);
        }
        sentence("- `position`: the position, starting at 0");
        takes("ledgerLoan", () -> entries(3), LendingDesk::ledgerLoan, 0, 2);
        takes("ledgerLoan of 20", () -> entries(20), LendingDesk::ledgerLoan, 0, 19);
        sentence("Returns the id of the loan, which need not exist any more.");
        C.no("loan 0 is repaid", x.exists(0));
        C.same("ledgerLoan", x.ledgerLoan(0), 0);
        x.pass(60);
        C.no("loan 3 defaulted", x.exists(3));
        C.same("ledgerLoan", x.ledgerLoan(1), 3);
        sentence(NO_POSITION);
        noPosition("ledgerLoan", LendingDesk::ledgerLoan);
        section("Promise 47");
        sentence("Returns the sum of the coins of all ledger entries for a loan.");
        C.same("3 entries", entries(3).ledgerOf(0), 6);
        C.same("20 entries", entries(20).ledgerOf(0), 210);
        C.same("20 entries of 21", entries(21).ledgerOf(0), 230);
        sentence("- `id`: any id");
        for (int id : new int[] {-1, 2, 4, Integer.MIN_VALUE, Integer.MAX_VALUE}) {
            C.same("ledgerOf(" + id + ")", x.ledgerOf(id), 0);
        }
        sentence("Returns the sum, 0 without entries.");
        C.same("an empty ledger", new LendingDesk().ledgerOf(0), 0);
        C.same("a loan without entries", oneLoan().ledgerOf(0), 0);
        C.same("a loan with one", x.ledgerOf(1), 1);
        C.same("a loan that is repaid", x.ledgerOf(0), 40);
    }

    private static void noPosition(String what, Call call) {
        refusesEach(Checks.MISSING, what + " of 3", () -> entries(3), call, -1, 3, 4, 19, 20, Integer.MIN_VALUE,
                Integer.MAX_VALUE);
        refusesEach(Checks.MISSING, what + " of 20", () -> entries(21), call, -1, 20, 21);
        refusesEach(Checks.MISSING, what + " of none", LendingDesk::new, call, 0);
    }

    // ---- promises 48 to 55 ----

    private static void countsSoFar() {
        LendingDesk x = twoBorrowers();
        x.lend(0, 0, 3, 20, 60);
        x.lend(1, 1, 3, 20, 60);
        x.lend(0, 2, 3, 20, 1);
        section("Promise 48");
        sentence("Returns the number of loans that have been repaid completely so far.");
        C.same("none", x.repaidLoans(), 0);
        x.repay(0, 19);
        C.same("all but a coin", x.repaidLoans(), 0);
        x.repay(0, 1);
        C.same("completely", x.repaidLoans(), 1);
        sentence("Returns the number.");
        x.undo();
        C.same("after undo", x.repaidLoans(), 0);
        x.repay(0, 1);
        C.same("again", x.repaidLoans(), 1);
        section("Promise 49");
        sentence("Returns the number of loans that have defaulted so far.");
        x.pass(1);
        C.same("on the due day", x.defaultedLoans(), 0);
        x.setPrice(1, 5);
        x.pass(1);
        C.same("the day after", x.defaultedLoans(), 2);
        sentence("Returns the number.");
        C.same("a repayment is no default", x.repaidLoans(), 1);
        x.undo();
        C.same("after undo", x.defaultedLoans(), 0);
        x.pass(1);
        C.same("again", x.defaultedLoans(), 2);
        section("Promise 50");
        sentence("Returns the sum of the losses of all defaults so far.");
        C.same("22 less 15, and nothing", x.losses(), 7);
        sentence("Returns the coins.");
        x.lend(1, 3, 3, 20, 60);
        x.setPrice(3, 7);
        x.pass(1);
        C.same("a debt equal to the value", x.losses(), 7);
        x.pass(1);
        C.same("a coin more", x.losses(), 8);
        x.undo();
        C.same("after undo", x.losses(), 7);
    }

    private static void totals() {
        section("Promise 51");
        sentence("Returns the sum of the capital and the coins of all borrowers.");
        LendingDesk x = someLoans();
        C.same("totalCoins", x.totalCoins(), 1100);
        C.same("the sum", x.capital() + x.coins(0) + x.coins(1), 1100);
        sentence("Returns the coins.");
        C.same("without borrowers", new LendingDesk().totalCoins(), 1000);
        x.addBorrower(500);
        C.same("with a third borrower", x.totalCoins(), 1600);
        section("Promise 52");
        sentence("Returns the sum of the units of a kind in the stock, with all borrowers, and in the collateral of all"
                + " loans.");
        for (int kind = 0; kind < 4; kind++) {
            C.same("totalUnits", x.totalUnits(kind), 180);
            C.same("the sum", x.stock(kind) + x.units(0, kind) + x.units(1, kind) + x.collateral(1, kind)
                    + x.collateral(3, kind), 180);
        }
        C.same("some in stock", x.stock(2), 4);
        sentence("Returns the units.");
        C.same("none", new LendingDesk().totalUnits(0), 0);
        x.bring(2, 1, 1);
        C.same("one more", x.totalUnits(1), 181);
        C.same("of another kind", x.totalUnits(0), 180);
        sentence(NO_KIND);
        kinds("totalUnits", TestBase::someLoans, LendingDesk::totalUnits);
    }

    private static void shares() {
        section("Promise 53");
        sentence("Returns the mean debt of the loans: the sum, converted to double, divided by their number.");
        LendingDesk x = oneBorrower(0);
        x.lend(0, 0, 9, 20, 60);
        C.same("of one", x.meanDebt(), 20.0);
        x.lend(0, 1, 9, 21, 60);
        C.same("of two", x.meanDebt(), 20.5);
        x.lend(0, 2, 9, 23, 60);
        C.same("of three", x.meanDebt(), 64.0 / 3);
        sentence("Returns the mean.");
        x.pass(1);
        C.same("with interest", x.meanDebt(), 67.0 / 3);
        sentence("Throws `ArithmeticException` if there are no loans");
        refuses(new LendingDesk(), Checks.ARITHMETIC, "meanDebt", LendingDesk::meanDebt);
        refuses(twoDefaults(), Checks.ARITHMETIC, "meanDebt after defaults", LendingDesk::meanDebt);
        section("Promise 54");
        sentence("Returns the number of defaulted loans, converted to float, divided by the number of all loans that have"
                + " been granted so far.");
        LendingDesk y = oneBorrower(0);
        y.lend(0, 0, 9, 5, 60);
        C.same("none of one", y.defaultShare(), 0f);
        y.lend(0, 1, 9, 5, 1);
        y.lend(0, 2, 9, 5, 60);
        y.repay(2, 5);
        y.pass(2);
        C.same("one of three", y.defaultShare(), 1f / 3);
        C.same("one of four", someLoans().defaultShare(), 0.25f);
        sentence("Returns the share.");
        C.same("all", twoDefaults().defaultShare(), 1f);
        y.lend(0, 2, 9, 5, 60);
        y.lend(0, 2, 9, 5, 60);
        C.same("one of five", y.defaultShare(), 0.2f);
        y.undo();
        C.same("one of four after undo", y.defaultShare(), 0.25f);
        sentence("Throws `ArithmeticException` if no loan has been granted so far");
        refuses(new LendingDesk(), Checks.ARITHMETIC, "defaultShare", LendingDesk::defaultShare);
        LendingDesk z = oneLoan();
        z.undo();
        refuses(z, Checks.ARITHMETIC, "defaultShare after undo", LendingDesk::defaultShare);
    }

    private static void isBalanced() {
        section("Promise 55");
        sentence("Checks the desk: totalCoins is equal to 1000 plus the coins that borrowers have brought; for all kinds,"
                + " totalUnits is equal to the units that have been brought in; and daysToDefault and"
                + " daysToDefaultByDays agree for all loans.");
        // No run of calls unbalances the desk, so its state is changed from outside.
        C.no("a coin too many", tampered(-1, "funds", 901).isBalanced());
        C.no("a coin too few", tampered(-1, "funds", 899).isBalanced());
        C.yes("the same coins", tampered(-1, "funds", 900).isBalanced());
        for (int kind = 0; kind < 4; kind++) {
            C.no("a unit too many", tampered(kind, "stored", 1).isBalanced());
            C.no("a unit too few", tampered(kind, "stored", -1).isBalanced());
            C.yes("the same units", tampered(kind, "stored", 0).isBalanced());
        }
        C.no("days that do not agree", tampered(-2, "lastDay", 200).isBalanced());
        C.yes("days that agree", tampered(-2, "lastDay", 60).isBalanced());
        sentence("Returns true if all these checks succeed.");
        C.yes("a new object", new LendingDesk().isBalanced());
        C.yes("loans", someLoans().isBalanced());
        C.yes("defaults", stocked().isBalanced());
        C.yes("a full ledger", entries(25).isBalanced());
        LendingDesk x = someLoans();
        x.undo();
        C.yes("after undo", x.isBalanced());
        x.setPrice(0, 1);
        x.setPrice(1, 1);
        C.yes("with loans that default at once", x.isBalanced());
        x.save();
        x.pass(60);
        C.yes("after them", x.isBalanced());
        x.restore();
        C.yes("after restore", x.isBalanced());
    }
}
