/** Promises 1 to 10, sentence by sentence. */
public final class BoundaryChangesTest extends BoundaryBase {
    private BoundaryChangesTest() {
    }

    public static void main(String[] args) {
        newObject();
        addBorrower();
        bring();
        setPrice();
        lend();
        pledge();
        release();
        repay();
        buy();
        pass();
        finishPromises(1, 10);
    }

    // ---- objects to start from ----

    /** One borrower with 198 units of each kind. */
    private static LendingDesk manyUnits() {
        LendingDesk x = new LendingDesk();
        x.addBorrower(0);
        for (int kind = 0; kind < 4; kind++) {
            x.bring(0, kind, 99);
            x.bring(0, kind, 99);
        }
        return x;
    }

    /** Loan 0 of a coin has 198 units of kind 0; the borrower has 198 of each other kind. */
    private static LendingDesk manyPledged() {
        LendingDesk x = manyUnits();
        x.lend(0, 0, 99, 1, 60);
        x.pledge(0, 0, 99);
        return x;
    }

    /** 134 units of kind 0, worth a coin each, are in stock, and borrower 0 has 130 coins. */
    private static LendingDesk muchStock() {
        LendingDesk x = manyUnits();
        x.setPrice(0, 1);
        x.lend(0, 0, 99, 65, 1);
        x.lend(0, 0, 99, 65, 1);
        x.pass(2);
        return x;
    }

    /** Loan 9 has a debt of 1004, and its borrower 1009 coins. */
    private static LendingDesk deepDebt() {
        LendingDesk x = new LendingDesk();
        x.addBorrower(500);
        x.bring(0, 0, 99);
        x.bring(0, 0, 9);
        x.setPrice(0, 99);
        for (int i = 0; i < 9; i++) {
            x.lend(0, 0, 1, 1, 60);
        }
        x.lend(0, 0, 99, 500, 60);
        x.pass(18);
        return x;
    }

    // ---- promise 1 ----

    private static void newObject() {
        section("Promise 1");
        sentence("Creates a desk with 1000 coins, without borrowers and loans, on day 0.");
        LendingDesk x = new LendingDesk();
        C.same("capital", x.capital(), 1000);
        C.same("totalCoins", x.totalCoins(), 1000);
        C.same("borrowerCount", x.borrowerCount(), 0);
        C.same("loanCount", x.loanCount(), 0);
        C.same("day", x.day(), 0);
        C.no("exists", x.exists(0));
        C.same("ledgerSize", x.ledgerSize(), 0);
        C.same("repaidLoans", x.repaidLoans(), 0);
        C.same("defaultedLoans", x.defaultedLoans(), 0);
        C.same("losses", x.losses(), 0);
        C.same("undoableCount", x.undoableCount(), 0);
        C.yes("isBalanced", x.isBalanced());
        refuses(x, Checks.INDEX, "coins(0)", y -> y.coins(0));
        refuses(x, Checks.INDEX, "idAt(0)", y -> y.idAt(0));
        refuses(x, Checks.MISSING, "debt(0)", y -> y.debt(0));
        refuses(x, Checks.MISSING, "riskiest", LendingDesk::riskiest);
        refuses(x, Checks.MISSING, "loanByDebt(0)", y -> y.loanByDebt(0));
        refuses(x, Checks.STATE, "undo", LendingDesk::undo);
        refuses(x, Checks.STATE, "restore", LendingDesk::restore);
        LendingDesk other = new LendingDesk();
        other.addBorrower(7);
        other.pass(3);
        C.same("objects are apart", x.borrowerCount() + x.day(), 0);
    }

    // ---- promises 2 to 4 ----

    private static void addBorrower() {
        section("Promise 2");
        sentence("Adds a borrower, who brings coins.");
        LendingDesk x = new LendingDesk();
        x.addBorrower(44);
        C.same("borrowerCount", x.borrowerCount(), 1);
        C.same("coins", x.coins(0), 44);
        C.same("capital", x.capital(), 1000);
        C.same("totalCoins", x.totalCoins(), 1044);
        sentence("- `coins`: the coins, 0 to 500");
        for (int coins : new int[] {0, 1, 499, 500}) {
            LendingDesk y = new LendingDesk();
            C.same("addBorrower", y.addBorrower(coins), 0);
            C.same("coins", y.coins(0), coins);
        }
        sentence("Returns the number of the borrower.");
        LendingDesk six = new LendingDesk();
        for (int b = 0; b < 6; b++) {
            C.same("addBorrower", six.addBorrower(b), b);
        }
        sentence("Throws `IllegalArgumentException` if the coins are out of range");
        range("addBorrower", 0, 500, LendingDesk::new, LendingDesk::addBorrower);
        sentence("Throws `IllegalStateException` if there are 6 borrowers");
        refuses(six, Checks.STATE, "a seventh borrower", y -> y.addBorrower(0));
        refuses(six, Checks.STATE, "a seventh borrower", y -> y.addBorrower(500));
        six.undo();
        C.same("a sixth borrower", six.addBorrower(9), 5);
        refuses(six, Checks.STATE, "a seventh borrower", y -> y.addBorrower(0));
    }

    private static void bring() {
        section("Promise 3");
        sentence("Brings in units for a borrower.");
        LendingDesk x = twoBorrowers();
        x.bring(1, 2, 5);
        C.same("units", x.units(1, 2), 95);
        C.same("units of the other borrower", x.units(0, 2), 90);
        C.same("units of another kind", x.units(1, 1), 90);
        C.same("totalUnits", x.totalUnits(2), 185);
        C.same("coins", x.coins(1), 50);
        sentence("- `units`: the number of units, 1 to 99");
        for (int units : new int[] {1, 2, 98, 99}) {
            LendingDesk y = oneBorrower(0);
            C.same("bring", y.bring(0, 0, units), 90 + units);
        }
        sentence("Returns the units of this kind that the borrower has afterwards.");
        LendingDesk z = oneBorrower(0);
        z.lend(0, 3, 30, 50, 60);
        C.same("bring, without what is pledged", z.bring(0, 3, 1), 61);
        C.same("bring again", z.bring(0, 3, 99), 160);
        sentence("Throws `IndexOutOfBoundsException` if there is no such borrower or kind");
        borrowers("bring", TestBase::twoBorrowers, (y, b) -> y.bring(b, 0, 1));
        kinds("bring", TestBase::twoBorrowers, (y, k) -> y.bring(1, k, 1));
        sentence("Throws `IllegalArgumentException` if the number of units is out of range");
        range("bring", 1, 99, TestBase::oneBorrower0, (y, units) -> y.bring(0, 0, units));
        sentence("Throws `IllegalStateException` if the borrower would have more than 999 units of this kind");
        C.same("bring from 899 to 998", unitsOfKind3(899).bring(0, 3, 99), 998);
        C.same("bring from 900 to 999", unitsOfKind3(900).bring(0, 3, 99), 999);
        for (int units : new int[] {901, 950, 998}) {
            LendingDesk y = unitsOfKind3(units);
            refuses(y, Checks.STATE, "bring to 1000", w -> w.bring(0, 3, 1000 - units));
            C.same("bring to 999", y.bring(0, 3, 999 - units), 999);
            refuses(y, Checks.STATE, "bring of one more", w -> w.bring(0, 3, 1));
            refuses(y, Checks.STATE, "bring of 99 more", w -> w.bring(0, 3, 99));
            C.same("bring of another kind", y.bring(0, 2, 99), 99);
        }
    }

    private static LendingDesk unitsOfKind3(int units) {
        LendingDesk x = new LendingDesk();
        x.addBorrower(0);
        for (int left = units; left > 0; left -= 99) {
            x.bring(0, 3, Math.min(left, 99));
        }
        return x;
    }

    private static void setPrice() {
        section("Promise 4");
        sentence("Sets the price of a kind.");
        LendingDesk x = new LendingDesk();
        x.setPrice(2, 33);
        for (int kind = 0; kind < 4; kind++) {
            C.same("price", x.price(kind), kind == 2 ? 33 : 10);
        }
        sentence("- `price`: the price, 1 to 99");
        for (int price : new int[] {1, 2, 98, 99}) {
            x.setPrice(3, price);
            C.same("price", x.price(3), price);
        }
        sentence("Returns the previous price.");
        C.same("the first call", x.setPrice(0, 99), 10);
        C.same("the next call", x.setPrice(0, 1), 99);
        C.same("the same price", x.setPrice(0, 1), 1);
        C.same("another price", x.setPrice(0, 10), 1);
        sentence("Throws `IndexOutOfBoundsException` if there is no such kind");
        kinds("setPrice", LendingDesk::new, (y, k) -> y.setPrice(k, 1));
        sentence("Throws `IllegalArgumentException` if the price is out of range");
        range("setPrice", 1, 99, LendingDesk::new, (y, price) -> y.setPrice(1, price));
    }

    // ---- promise 5 ----

    private static void lend() {
        section("Promise 5");
        sentence("Grants a loan against units of one kind.");
        LendingDesk x = twoBorrowers();
        x.lend(1, 2, 30, 200, 7);
        C.same("loanCount", x.loanCount(), 1);
        C.same("borrowerOf", x.borrowerOf(0), 1);
        C.same("collateral", x.collateral(0, 2), 30);
        C.same("units", x.units(1, 2), 60);
        C.same("coins", x.coins(1), 250);
        C.same("capital", x.capital(), 800);
        sentence("- `units`: the units that are pledged, 1 to 99");
        for (int units : new int[] {1, 2, 98, 99}) {
            LendingDesk y = manyUnits();
            C.same("lend", y.lend(0, 0, units, 1, 1), 0);
            C.same("collateral", y.collateral(0, 0), units);
        }
        sentence("- `principal`: the principal, 1 to 500");
        for (int principal : new int[] {1, 2, 499, 500}) {
            LendingDesk y = manyUnits();
            C.same("lend", y.lend(0, 0, 99, principal, 1), 0);
            C.same("principal", y.principal(0), principal);
        }
        sentence("- `term`: the term in days, 1 to 60");
        for (int term : new int[] {1, 2, 59, 60}) {
            LendingDesk y = manyUnits();
            y.pass(3);
            C.same("lend", y.lend(0, 0, 99, 1, term), 0);
            C.same("dueDay", y.dueDay(0), 3 + term);
        }
        sentence("Returns the id of the loan.");
        C.same("the second loan", x.lend(0, 0, 1, 1, 1), 1);
        C.same("the third loan", x.lend(1, 0, 1, 1, 1), 2);
        sentence("Throws `IndexOutOfBoundsException` if there is no such borrower or kind");
        borrowers("lend", TestBase::twoBorrowers, (y, b) -> y.lend(b, 0, 1, 1, 1));
        kinds("lend", TestBase::twoBorrowers, (y, k) -> y.lend(1, k, 1, 1, 1));
        sentence("Throws `IllegalArgumentException` if one of the other arguments is out of range");
        range("lend on units", 1, 99, BoundaryChangesTest::manyUnits, (y, units) -> y.lend(0, 0, units, 1, 1));
        range("lend of coins", 1, 500, BoundaryChangesTest::manyUnits, (y, coins) -> y.lend(0, 0, 99, coins, 1));
        range("lend for days", 1, 60, BoundaryChangesTest::manyUnits, (y, term) -> y.lend(0, 0, 1, 1, term));
        lendInStates();
    }

    private static void lendInStates() {
        sentence("Throws `IllegalStateException` if there are 10 loans, the borrower has 2 or more defaults, the borrower"
                + " has fewer units, the capital is less than the principal, or the loan would not be covered");
        LendingDesk ten = oneBorrower(0);
        for (int i = 0; i < 10; i++) {
            C.same("lend with " + i + " loans", ten.lend(0, 0, 1, 1, 60), i);
        }
        refuses(ten, Checks.STATE, "lend with 10 loans", y -> y.lend(0, 0, 1, 1, 60));
        for (int defaults = 1; defaults <= 3; defaults++) {
            LendingDesk x = oneBorrower(0);
            for (int i = 0; i < defaults; i++) {
                x.lend(0, i, 9, 20, 1);
            }
            x.pass(2);
            int id = defaults;
            if (defaults < 2) {
                C.same("lend after a default", x.lend(0, 3, 9, 20, 1), id);
            } else {
                refuses(x, Checks.STATE, "lend after " + defaults + " defaults", y -> y.lend(0, 3, 9, 20, 1));
            }
        }
        refuses(oneBorrower(0), Checks.STATE, "lend on 91 units of 90", y -> y.lend(0, 0, 91, 1, 1));
        takes("lend of 90 units, on", TestBase::oneBorrower0, (y, units) -> y.lend(0, 0, units, 1, 1), 90, 89);
        LendingDesk none = oneBorrower(0);
        none.lend(0, 0, 90, 1, 1);
        refuses(none, Checks.STATE, "lend on a unit of none", y -> y.lend(0, 0, 1, 1, 1));
        LendingDesk poor = oneBorrower(0);
        poor.lend(0, 0, 90, 500, 60);
        poor.lend(0, 1, 90, 400, 60);
        refuses(poor, Checks.STATE, "lend of 101 of 100", y -> y.lend(0, 2, 90, 101, 60));
        C.same("lend of 99 of 100", poor.lend(0, 2, 30, 99, 60), 2);
        poor.undo();
        C.same("lend of 100 of 100", poor.lend(0, 2, 30, 100, 60), 2);
        refuses(poor, Checks.STATE, "lend of 1 of 0", y -> y.lend(0, 2, 30, 1, 60));
        refuses(oneBorrower(0), Checks.STATE, "lend of 21 on a value of 30", y -> y.lend(0, 0, 3, 21, 60));
        takes("lend on a value of 30, of", TestBase::oneBorrower0, (y, coins) -> y.lend(0, 0, 3, coins, 60), 20, 19);
    }

    // ---- promises 6 and 7 ----

    private static void pledge() {
        section("Promise 6");
        sentence("Adds units of the borrower of a loan to its collateral.");
        LendingDesk x = someLoans();
        x.pledge(1, 2, 7);
        C.same("collateral", x.collateral(1, 2), 12);
        C.same("units", x.units(1, 2), 78);
        C.same("collateral of the other loan", x.collateral(3, 2), 5);
        C.same("units of the other borrower", x.units(0, 2), 81);
        sentence("- `units`: the number of units, 1 to 99");
        for (int units : new int[] {1, 2, 98, 99}) {
            LendingDesk y = manyPledged();
            C.same("pledge", y.pledge(0, 1, units), 1980 + 10 * units);
            C.same("collateral", y.collateral(0, 1), units);
        }
        sentence("Returns the collateral value afterwards.");
        x.setPrice(3, 99);
        x.setPrice(0, 1);
        C.same("pledge", x.pledge(1, 3, 2), 5 + 250 + 120 + 99 * 7);
        sentence("Throws `NoSuchElementException` if no loan has this id");
        ids("pledge", (y, id) -> y.pledge(id, 3, 1));
        sentence("Throws `IndexOutOfBoundsException` if there is no such kind");
        kinds("pledge", TestBase::someLoans, (y, k) -> y.pledge(1, k, 1));
        sentence("Throws `IllegalArgumentException` if the number of units is out of range");
        range("pledge", 1, 99, BoundaryChangesTest::manyPledged, (y, units) -> y.pledge(0, 1, units));
        sentence("Throws `IllegalStateException` if the borrower has fewer units of this kind");
        takes("pledge of 70 units,", TestBase::oneLoan, (y, units) -> y.pledge(0, 1, units), 69, 70);
        refusesEach(Checks.STATE, "pledge of 70 units,", TestBase::oneLoan, (y, units) -> y.pledge(0, 1, units), 71, 99);
        LendingDesk z = oneLoan();
        z.pledge(0, 1, 70);
        refuses(z, Checks.STATE, "pledge of a unit of none", y -> y.pledge(0, 1, 1));
    }

    private static void release() {
        section("Promise 7");
        sentence("Returns units of the collateral of a loan to its borrower.");
        LendingDesk x = someLoans();
        x.release(1, 1, 7);
        C.same("collateral", x.collateral(1, 1), 18);
        C.same("units", x.units(1, 1), 72);
        C.same("units of the other borrower", x.units(0, 1), 85);
        C.same("collateral of the other loan", x.collateral(3, 1), 5);
        sentence("- `units`: the number of units, 1 to 99");
        for (int units : new int[] {1, 2, 98, 99}) {
            LendingDesk y = manyPledged();
            C.same("release", y.release(0, 0, units), 1980 - 10 * units);
            C.same("units", y.units(0, 0), units);
        }
        sentence("Returns the collateral value afterwards.");
        x.setPrice(3, 99);
        x.setPrice(0, 1);
        C.same("release", x.release(1, 3, 2), 5 + 180 + 50 + 99 * 3);
        sentence("Throws `NoSuchElementException` if no loan has this id");
        ids("release", (y, id) -> y.release(id, 3, 1));
        sentence("Throws `IndexOutOfBoundsException` if there is no such kind");
        kinds("release", TestBase::someLoans, (y, k) -> y.release(1, k, 1));
        sentence("Throws `IllegalArgumentException` if the number of units is out of range");
        range("release", 1, 99, BoundaryChangesTest::manyPledged, (y, units) -> y.release(0, 0, units));
        releaseInStates();
    }

    private static void releaseInStates() {
        sentence("Throws `IllegalStateException` if the collateral has fewer units of this kind, or the loan would not be"
                + " covered afterwards");
        takes("release of 5 units,", TestBase::someLoans, (y, units) -> y.release(1, 0, units), 4, 5);
        refusesEach(Checks.STATE, "release of 5 units,", TestBase::someLoans, (y, units) -> y.release(1, 0, units), 6, 99);
        LendingDesk none = oneLoan();
        refuses(none, Checks.STATE, "release of a unit of none", y -> y.release(0, 0, 1));
        // A debt of 100 needs a value of 150: 20 units may shrink to 15.
        takes("release from 20 units,", TestBase::oneLoan, (y, units) -> y.release(0, 1, units), 4, 5);
        refusesEach(Checks.STATE, "release from 20 units,", TestBase::oneLoan, (y, units) -> y.release(0, 1, units), 6,
                20, 21);
        LendingDesk x = oneLoan();
        x.pass(1);
        refuses(x, Checks.STATE, "release with a debt of 101", y -> y.release(0, 1, 5));
        x.repay(0, 1);
        C.same("release with a debt of 100", x.release(0, 1, 5), 150);
        LendingDesk uncovered = oneLoan();
        uncovered.setPrice(1, 7);
        refuses(uncovered, Checks.STATE, "release while the loan is not covered", y -> y.release(0, 1, 1));
    }

    // ---- promises 8 to 10 ----

    private static void repay() {
        section("Promise 8");
        sentence("Repays a loan in part or completely.");
        LendingDesk x = oneLoan();
        x.repay(0, 99);
        C.yes("in part", x.exists(0));
        C.same("principal", x.principal(0), 1);
        x.repay(0, 1);
        C.no("completely", x.exists(0));
        sentence("- `coins`: the coins, 1 to 999");
        for (int coins : new int[] {1, 2, 998, 999}) {
            LendingDesk y = deepDebt();
            C.same("repay", y.repay(9, coins), 1004 - coins);
            C.same("coins", y.coins(0), 1009 - coins);
        }
        sentence("Returns the debt afterwards.");
        LendingDesk z = oneLoan();
        z.pass(3);
        C.same("a part of the interest", z.repay(0, 2), 101);
        C.same("a part of the principal", z.repay(0, 100), 1);
        C.same("the rest", z.repay(0, 1), 0);
        sentence("Throws `NoSuchElementException` if no loan has this id");
        ids("repay", (y, id) -> y.repay(id, 1));
        sentence("Throws `IllegalArgumentException` if the coins are out of range");
        range("repay", 1, 999, BoundaryChangesTest::deepDebt, (y, coins) -> y.repay(9, coins));
        sentence("Throws `IllegalStateException` if the coins are more than the debt, or more than the borrower has");
        takes("repay of a debt of 100,", TestBase::oneLoan, (y, coins) -> y.repay(0, coins), 99, 100);
        refusesEach(Checks.STATE, "repay of a debt of 100,", TestBase::oneLoan, (y, coins) -> y.repay(0, coins), 101, 999);
        takes("repay out of 100 coins,", BoundaryChangesTest::shortOfCoins, (y, coins) -> y.repay(0, coins), 99, 100);
        refusesEach(Checks.STATE, "repay out of 100 coins,", BoundaryChangesTest::shortOfCoins,
                (y, coins) -> y.repay(0, coins), 101, 102, 103, 999);
    }

    /** The borrower has 100 coins, and loan 0 a debt of 102. */
    private static LendingDesk shortOfCoins() {
        LendingDesk x = oneBorrower(0);
        x.lend(0, 0, 20, 100, 60);
        x.pass(2);
        return x;
    }

    private static void buy() {
        section("Promise 9");
        sentence("Lets a borrower buy units from the stock of the desk at the present price.");
        LendingDesk x = stocked();
        x.setPrice(2, 13);
        x.addBorrower(100);
        x.buy(1, 2, 4);
        C.same("units", x.units(1, 2), 4);
        C.same("coins", x.coins(1), 48);
        C.same("stock", x.stock(2), 2);
        C.same("capital", x.capital(), 852);
        C.same("stock of another kind", x.stock(1), 6);
        sentence("- `units`: the number of units, 1 to 99");
        for (int units : new int[] {1, 2, 98, 99}) {
            LendingDesk y = muchStock();
            C.same("buy", y.buy(0, 0, units), units);
            C.same("stock", y.stock(0), 134 - units);
        }
        sentence("Returns the coins that are paid.");
        C.same("buy of 1", x.buy(0, 2, 1), 13);
        x.setPrice(3, 40);
        C.same("buy of 5", x.buy(0, 3, 5), 200);
        sentence("Throws `IndexOutOfBoundsException` if there is no such borrower or kind");
        borrowers("buy", TestBase::stocked, (y, b) -> y.buy(b, 0, 1));
        kinds("buy", TestBase::stocked, (y, k) -> y.buy(0, k, 1));
        sentence("Throws `IllegalArgumentException` if the number of units is out of range");
        range("buy", 1, 99, BoundaryChangesTest::muchStock, (y, units) -> y.buy(0, 0, units));
        buyInStates();
    }

    private static void buyInStates() {
        sentence("Throws `IllegalStateException` if the stock has fewer units of this kind, the borrower has fewer coins"
                + " than they cost, or the borrower would have more than 999 units of this kind");
        takes("buy of 6 units,", TestBase::stocked, (y, units) -> y.buy(0, 0, units), 5, 6);
        refusesEach(Checks.STATE, "buy of 6 units,", TestBase::stocked, (y, units) -> y.buy(0, 0, units), 7, 8, 25, 99);
        refuses(oneBorrower(50), Checks.STATE, "buy from an empty stock", y -> y.buy(0, 0, 1));
        for (int coins = 38; coins <= 41; coins++) {
            LendingDesk x = stocked();
            x.addBorrower(coins);
            x.setPrice(1, 20);
            if (coins < 40) {
                refuses(x, Checks.STATE, "buy for 40 with " + coins, y -> y.buy(1, 1, 2));
            } else {
                C.same("buy for 40 with " + coins, x.buy(1, 1, 2), 40);
                C.same("coins", x.coins(1), coins - 40);
            }
        }
        for (int units = 2; units <= 5; units++) {
            LendingDesk x = stocked();
            x.addBorrower(100);
            for (int i = 0; i < 10; i++) {
                x.bring(1, 3, 99);
            }
            x.bring(1, 3, 6);
            int n = units;
            if (units > 3) {
                refuses(x, Checks.STATE, "buy to " + (996 + units), y -> y.buy(1, 3, n));
            } else {
                C.same("buy to " + (996 + units), x.buy(1, 3, n), 10 * n);
                C.same("units", x.units(1, 3), 996 + n);
            }
        }
    }

    private static void pass() {
        section("Promise 10");
        sentence("Lets days pass, one after the other.");
        LendingDesk atOnce = someLoans();
        LendingDesk oneByOne = someLoans();
        atOnce.lend(0, 1, 9, 60, 60);
        oneByOne.lend(0, 1, 9, 60, 60);
        atOnce.setPrice(1, 7);
        oneByOne.setPrice(1, 7);
        C.same("45 days at once", atOnce.pass(45), 2);
        int defaults = 0;
        for (int i = 0; i < 45; i++) {
            defaults += oneByOne.pass(1);
        }
        C.same("45 days one by one", defaults, 2);
        C.same("picture", withoutUndo(atOnce), withoutUndo(oneByOne));
        sentence("- `days`: the number of days, 1 to 60");
        for (int days : new int[] {1, 2, 59, 60}) {
            LendingDesk x = oneBorrower(0);
            x.lend(0, 0, 90, 1, 60);
            C.same("pass", x.pass(days), 0);
            C.same("day", x.day(), days);
            C.same("interest", x.interest(0), days);
        }
        sentence("Returns the number of loans that default.");
        for (int count = 0; count <= 10; count++) {
            LendingDesk x = oneBorrower(0);
            for (int i = 0; i < 10; i++) {
                x.lend(0, 0, 9, 5, i < count ? 1 + i % 2 : 60);
            }
            C.same("pass", x.pass(3), count);
            C.same("loanCount", x.loanCount(), 10 - count);
            C.same("pass again", x.pass(1), 0);
        }
        sentence("Throws `IllegalArgumentException` if the number of days is out of range");
        range("pass", 1, 60, TestBase::someLoans, LendingDesk::pass);
    }
}
