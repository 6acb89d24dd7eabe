import java.util.function.Consumer;

/** For every promise the ordinary inputs, the edges that the document names, and wrong inputs. */
public final class LendingDeskTest extends TestBase {
    private LendingDeskTest() {
    }

    public static void main(String[] args) {
        goodsAndBorrowers();
        loans();
        questions();
        orders();
        ledgerAndSums();
        lineAndPrograms();
        undoAndCopies();
        C.finish();
    }

    // ---- promises 1 to 4, 11 to 17 ----

    private static void goodsAndBorrowers() {
        promise1();
        promise2();
        promise3();
        promise4();
        promises11to17();
    }

    private static void promise1() {
        LendingDesk x = new LendingDesk();
        C.same("capital", x.capital(), 1000);
        C.same("day", x.day(), 0);
        C.same("borrowerCount", x.borrowerCount(), 0);
        C.same("loanCount", x.loanCount(), 0);
        C.same("totalCoins", x.totalCoins(), 1000);
        C.same("ledgerSize", x.ledgerSize(), 0);
        C.same("undoableCount", x.undoableCount(), 0);
        for (int kind = 0; kind < 4; kind++) {
            C.same("price", x.price(kind), 10);
            C.same("stock", x.stock(kind), 0);
        }
        LendingDesk other = new LendingDesk();
        other.addBorrower(7);
        C.same("objects are apart", x.borrowerCount(), 0);
    }

    private static void promise2() {
        LendingDesk x = new LendingDesk();
        refuses(x, Checks.ARGUMENT, "addBorrower(-1)", y -> y.addBorrower(-1));
        refuses(x, Checks.ARGUMENT, "addBorrower(501)", y -> y.addBorrower(501));
        refuses(x, Checks.ARGUMENT, "addBorrower(least)", y -> y.addBorrower(Integer.MIN_VALUE));
        int[] coins = {0, 500, 1, 2, 3, 4};
        for (int i = 0; i < 6; i++) {
            C.same("addBorrower", x.addBorrower(coins[i]), i);
            C.same("coins", x.coins(i), coins[i]);
        }
        C.same("totalCoins", x.totalCoins(), 1510);
        refuses(x, Checks.STATE, "a seventh borrower", y -> y.addBorrower(0));
        refuses(x, Checks.ARGUMENT, "a seventh borrower with 501 coins", y -> y.addBorrower(501));
    }

    private static void promise3() {
        LendingDesk x = new LendingDesk();
        refuses(x, Checks.INDEX, "bring without borrowers", y -> y.bring(0, 0, 1));
        x.addBorrower(0);
        C.same("bring", x.bring(0, 3, 1), 1);
        C.same("bring", x.bring(0, 3, 99), 100);
        C.same("another kind", x.units(0, 2), 0);
        refuses(x, Checks.INDEX, "bring(1, ..)", y -> y.bring(1, 0, 0));
        refuses(x, Checks.INDEX, "bring(-1, ..)", y -> y.bring(-1, 0, 1));
        refuses(x, Checks.INDEX, "bring of kind 4", y -> y.bring(0, 4, 0));
        refuses(x, Checks.INDEX, "bring of kind -1", y -> y.bring(0, -1, 1));
        refuses(x, Checks.ARGUMENT, "bring of 0", y -> y.bring(0, 0, 0));
        refuses(x, Checks.ARGUMENT, "bring of 100", y -> y.bring(0, 0, 100));
        for (int i = 0; i < 9; i++) {
            x.bring(0, 3, 99);
        }
        refuses(x, Checks.STATE, "bring beyond 999", y -> y.bring(0, 3, 9));
        refuses(x, Checks.ARGUMENT, "bring of 100 beyond 999", y -> y.bring(0, 3, 100));
        C.same("bring up to 999", x.bring(0, 3, 8), 999);
        refuses(x, Checks.STATE, "one more than 999", y -> y.bring(0, 3, 1));
        x.lend(0, 3, 10, 1, 1);
        C.same("pledged units do not count for 999", x.bring(0, 3, 10), 999);
        C.same("units come back beyond 999", x.repay(0, 1), 0);
        C.same("units beyond 999", x.units(0, 3), 1009);
        refuses(x, Checks.STATE, "bring beyond 1009", y -> y.bring(0, 3, 1));
    }

    private static void promise4() {
        LendingDesk x = new LendingDesk();
        C.same("setPrice", x.setPrice(0, 99), 10);
        C.same("setPrice", x.setPrice(0, 1), 99);
        C.same("price", x.price(0), 1);
        C.same("another price", x.price(3), 10);
        refuses(x, Checks.INDEX, "setPrice of kind 4", y -> y.setPrice(4, 0));
        refuses(x, Checks.INDEX, "setPrice of kind -1", y -> y.setPrice(-1, 5));
        refuses(x, Checks.ARGUMENT, "setPrice to 0", y -> y.setPrice(3, 0));
        refuses(x, Checks.ARGUMENT, "setPrice to 100", y -> y.setPrice(3, 100));
    }

    private static void promises11to17() {
        LendingDesk x = oneLoan();
        C.same("day", x.day(), 0);
        x.pass(3);
        C.same("day", x.day(), 3);
        C.same("capital", x.capital(), 900);
        C.same("borrowerCount", x.borrowerCount(), 1);
        C.same("coins", x.coins(0), 150);
        C.same("units", x.units(0, 1), 70);
        for (int wrong : new int[] {-1, 4, Integer.MAX_VALUE, Integer.MIN_VALUE}) {
            refuses(x, Checks.INDEX, "price", y -> y.price(wrong));
            refuses(x, Checks.INDEX, "stock", y -> y.stock(wrong));
            refuses(x, Checks.INDEX, "units", y -> y.units(0, wrong));
            refuses(x, Checks.INDEX, "coins", y -> y.coins(wrong));
            refuses(x, Checks.INDEX, "units", y -> y.units(wrong, 0));
        }
        refuses(x, Checks.INDEX, "coins(1)", y -> y.coins(1));
        refuses(x, Checks.INDEX, "units(1, 0)", y -> y.units(1, 0));
    }

    // ---- promises 5 to 10 ----

    private static void loans() {
        promise5();
        promise5states();
        promise6();
        promise7();
        promise8();
        promise9();
        promise10();
        promise10defaults();
    }

    private static void promise5() {
        LendingDesk x = oneBorrower(50);
        C.same("lend", x.lend(0, 1, 20, 100, 10), 0);
        C.same("coins", x.coins(0), 150);
        C.same("capital", x.capital(), 900);
        C.same("units", x.units(0, 1), 70);
        C.same("collateral", x.collateral(0, 1), 20);
        C.same("rate", x.rate(0), 10);
        C.same("lend again", x.lend(0, 0, 1, 6, 60), 1);
        C.same("rate of the second loan", x.rate(1), 15);
        C.same("due day", x.dueDay(1), 60);
        x.addBorrower(1);
        x.bring(1, 0, 9);
        C.same("rate of another borrower", x.rate(x.lend(1, 0, 9, 1, 1)), 10);
        x.repay(1, 6);
        C.same("ids are not used again", x.lend(0, 0, 1, 1, 1), 3);
        C.same("rate counts loans that exist", x.rate(3), 15);
        refuses(x, Checks.INDEX, "lend to 2", y -> y.lend(2, 0, 0, 0, 0));
        refuses(x, Checks.INDEX, "lend to -1", y -> y.lend(-1, 0, 1, 1, 1));
        refuses(x, Checks.INDEX, "lend on kind 4", y -> y.lend(0, 4, 0, 0, 0));
        refuses(x, Checks.INDEX, "lend on kind -1", y -> y.lend(0, -1, 1, 1, 1));
        int[][] wrong = {{0, 1, 1}, {100, 1, 1}, {1, 0, 1}, {1, 501, 1}, {1, 1, 0}, {1, 1, 61}, {100, 501, 61}};
        for (int[] w : wrong) {
            refuses(x, Checks.ARGUMENT, "lend out of range", y -> y.lend(0, 0, w[0], w[1], w[2]));
        }
    }

    private static void promise5states() {
        LendingDesk x = oneBorrower(0);
        refuses(x, Checks.STATE, "lend on 91 units", y -> y.lend(0, 0, 91, 1, 1));
        refuses(x, Checks.STATE, "lend that is not covered", y -> y.lend(0, 0, 2, 14, 1));
        C.same("lend that is just covered", x.lend(0, 0, 2, 13, 1), 0);
        C.same("lend with equal sides", x.lend(0, 0, 3, 20, 1), 1);
        x.setPrice(1, 99);
        C.same("the greatest arguments", x.lend(0, 1, 90, 500, 60), 2);
        refuses(x, Checks.STATE, "lend of more than the capital", y -> y.lend(0, 2, 90, 468, 1));
        C.same("lend of the whole capital", x.lend(0, 2, 90, 467, 1), 3);
        C.same("capital", x.capital(), 0);
        LendingDesk full = oneBorrower(0);
        for (int i = 0; i < 10; i++) {
            C.same("lend", full.lend(0, 0, 1, 1, 60), i);
            C.same("rate", full.rate(i), 10 + 5 * i);
        }
        refuses(full, Checks.STATE, "an eleventh loan", y -> y.lend(0, 0, 1, 1, 60));
        refuses(full, Checks.ARGUMENT, "an eleventh loan out of range", y -> y.lend(0, 0, 1, 1, 61));
        full.repay(4, 1);
        C.same("lend after a repayment", full.lend(0, 0, 1, 1, 60), 10);
        LendingDesk barred = twoDefaults();
        refuses(barred, Checks.STATE, "lend after two defaults", y -> y.lend(0, 2, 9, 1, 1));
        LendingDesk once = oneBorrower(0);
        once.lend(0, 0, 1, 1, 1);
        once.pass(2);
        C.same("lend after one default", once.lend(0, 0, 1, 1, 1), 1);
        C.same("due day is counted from the present day", once.dueDay(1), 3);
    }

    private static void promise6() {
        LendingDesk x = oneLoan();
        x.setPrice(2, 7);
        C.same("pledge", x.pledge(0, 2, 3), 221);
        C.same("pledge of all", x.pledge(0, 1, 70), 921);
        C.same("units", x.units(0, 2), 87);
        C.same("collateral", x.collateral(0, 1), 90);
        refuses(x, Checks.MISSING, "pledge(1, ..)", y -> y.pledge(1, 4, 0));
        refuses(x, Checks.MISSING, "pledge(-1, ..)", y -> y.pledge(-1, 0, 1));
        refuses(x, Checks.INDEX, "pledge of kind 4", y -> y.pledge(0, 4, 0));
        refuses(x, Checks.INDEX, "pledge of kind -1", y -> y.pledge(0, -1, 1));
        refuses(x, Checks.ARGUMENT, "pledge of 0", y -> y.pledge(0, 1, 0));
        refuses(x, Checks.ARGUMENT, "pledge of 100", y -> y.pledge(0, 1, 100));
        refuses(x, Checks.STATE, "pledge of too many", y -> y.pledge(0, 1, 1));
        refuses(x, Checks.STATE, "pledge of 88 of 87", y -> y.pledge(0, 2, 88));
    }

    private static void promise7() {
        LendingDesk x = oneLoan();
        C.same("release", x.release(0, 1, 5), 150);
        C.same("units", x.units(0, 1), 75);
        C.same("collateral", x.collateral(0, 1), 15);
        refuses(x, Checks.STATE, "release that uncovers", y -> y.release(0, 1, 1));
        x.pledge(0, 0, 2);
        refuses(x, Checks.STATE, "release of more than there are", y -> y.release(0, 0, 3));
        C.same("release of all of a kind", x.release(0, 0, 2), 150);
        x.pledge(0, 2, 9);
        x.pledge(0, 0, 1);
        refuses(x, Checks.STATE, "release of more than there are, though covered", y -> y.release(0, 0, 2));
        x.release(0, 2, 9);
        x.release(0, 0, 1);
        x.setPrice(1, 9);
        x.pledge(0, 0, 1);
        refuses(x, Checks.STATE, "release while uncovered", y -> y.release(0, 0, 1));
        refuses(x, Checks.MISSING, "release(1, ..)", y -> y.release(1, 4, 0));
        refuses(x, Checks.INDEX, "release of kind 4", y -> y.release(0, 4, 0));
        refuses(x, Checks.INDEX, "release of kind -1", y -> y.release(0, -1, 1));
        refuses(x, Checks.ARGUMENT, "release of 0", y -> y.release(0, 1, 0));
        refuses(x, Checks.ARGUMENT, "release of 100", y -> y.release(0, 1, 100));
    }

    private static void promise8() {
        LendingDesk x = oneLoan();
        x.pledge(0, 3, 2);
        x.pass(4);
        C.same("repay", x.repay(0, 3), 101);
        C.same("interest first", x.interest(0), 1);
        C.same("principal stays", x.principal(0), 100);
        C.same("repay over both", x.repay(0, 11), 90);
        C.same("interest", x.interest(0), 0);
        C.same("principal", x.principal(0), 90);
        C.same("capital", x.capital(), 914);
        C.same("coins", x.coins(0), 136);
        refuses(x, Checks.STATE, "repay of more than the debt", y -> y.repay(0, 91));
        refuses(x, Checks.MISSING, "repay(1, ..)", y -> y.repay(1, 0));
        refuses(x, Checks.MISSING, "repay(-1, ..)", y -> y.repay(-1, 1));
        refuses(x, Checks.ARGUMENT, "repay of 0", y -> y.repay(0, 0));
        refuses(x, Checks.ARGUMENT, "repay of 1000", y -> y.repay(0, 1000));
        refuses(x, Checks.STATE, "repay of 999", y -> y.repay(0, 999));
        C.same("repay of all", x.repay(0, 90), 0);
        C.no("exists", x.exists(0));
        C.same("collateral comes back", x.units(0, 1), 90);
        C.same("collateral comes back", x.units(0, 3), 90);
        refuses(x, Checks.MISSING, "repay of a repaid loan", y -> y.repay(0, 1));
        LendingDesk poor = oneBorrower(0);
        poor.lend(0, 0, 90, 20, 60);
        poor.pass(1);
        refuses(poor, Checks.STATE, "repay of more than the coins", y -> y.repay(0, 21));
        C.same("repay of all coins", poor.repay(0, 20), 1);
        C.same("coins", poor.coins(0), 0);
    }

    private static void promise9() {
        LendingDesk x = twoDefaults();
        C.same("stock", x.stock(0), 6);
        x.setPrice(0, 25);
        C.same("buy", x.buy(0, 0, 2), 50);
        C.same("coins", x.coins(0), 100);
        C.same("capital", x.capital(), 950);
        C.same("units", x.units(0, 0), 86);
        C.same("stock", x.stock(0), 4);
        C.same("buy of all", x.buy(0, 0, 4), 100);
        refuses(x, Checks.STATE, "buy beyond the stock", y -> y.buy(0, 0, 1));
        refuses(x, Checks.STATE, "buy beyond the coins", y -> y.buy(0, 1, 1));
        refuses(x, Checks.INDEX, "buy by 1", y -> y.buy(1, 0, 0));
        refuses(x, Checks.INDEX, "buy by -1", y -> y.buy(-1, 0, 1));
        refuses(x, Checks.INDEX, "buy of kind 4", y -> y.buy(0, 4, 0));
        refuses(x, Checks.INDEX, "buy of kind -1", y -> y.buy(0, -1, 1));
        refuses(x, Checks.ARGUMENT, "buy of 0", y -> y.buy(0, 0, 0));
        refuses(x, Checks.ARGUMENT, "buy of 100", y -> y.buy(0, 0, 100));
        x.addBorrower(10);
        C.same("buy with the last coins", x.buy(1, 1, 1), 10);
        x.addBorrower(500);
        for (int i = 0; i < 10; i++) {
            x.bring(2, 1, 99);
        }
        x.bring(2, 1, 8);
        refuses(x, Checks.STATE, "buy beyond 999 units", y -> y.buy(2, 1, 2));
        C.same("buy up to 999 units", x.buy(2, 1, 1), 10);
    }

    private static void promise10() {
        LendingDesk x = oneLoan();
        refuses(x, Checks.ARGUMENT, "pass(0)", y -> y.pass(0));
        refuses(x, Checks.ARGUMENT, "pass(61)", y -> y.pass(61));
        refuses(x, Checks.ARGUMENT, "pass(-1)", y -> y.pass(-1));
        C.same("pass", x.pass(10), 0);
        C.same("interest", x.interest(0), 10);
        C.yes("a loan lives on its due day", x.exists(0));
        C.same("pass beyond the due day", x.pass(1), 1);
        C.no("exists", x.exists(0));
        C.same("pass without loans", x.pass(60), 0);
        C.same("day", x.day(), 71);
        LendingDesk two = oneBorrower(0);
        two.lend(0, 0, 90, 101, 60);
        two.lend(0, 1, 90, 100, 60);
        two.lend(0, 2, 90, 7, 2);
        two.pass(1);
        C.same("interest is rounded up", two.interest(0), 2);
        C.same("interest at rate 15", two.interest(1), 2);
        C.same("interest at rate 20", two.interest(2), 1);
        C.same("several defaults", two.pass(60), 3);
    }

    private static void promise10defaults() {
        LendingDesk x = oneBorrower(0);
        x.lend(0, 3, 10, 66, 60);
        x.pledge(0, 1, 1);
        x.setPrice(3, 6);
        C.same("value", x.collateralValue(0), 70);
        C.same("debt equal to the value is no default", x.pass(4), 0);
        C.same("debt", x.debt(0), 70);
        C.same("a greater debt is", x.pass(1), 1);
        C.same("kind 1 is taken first", x.stock(1), 1);
        C.same("then kind 3", x.stock(3), 10);
        C.same("loss", x.losses(), 1);
        C.same("nothing is left", x.units(0, 3), 80);
        C.same("defaults", x.defaults(0), 1);
        LendingDesk y = oneBorrower(0);
        y.lend(0, 2, 20, 49, 1);
        y.pledge(0, 0, 3);
        y.setPrice(0, 7);
        C.same("default by term", y.pass(2), 1);
        C.same("stock of kind 0", y.stock(0), 3);
        C.same("stock of kind 2", y.stock(2), 3);
        C.same("the rest goes back", y.units(0, 2), 87);
        C.same("units of kind 0", y.units(0, 0), 87);
        C.same("no loss", y.losses(), 0);
        LendingDesk even = oneBorrower(0);
        even.lend(0, 0, 10, 49, 1);
        even.pass(1);
        C.same("debt before", even.debt(0), 50);
        even.repay(0, 1);
        even.pass(1);
        C.same("exactly enough units", even.stock(0), 5);
    }

    // ---- promises 18 to 41 ----

    private static void questions() {
        promises18to23();
        promises24to26();
        promises27to35();
        promise36();
        promises37and38();
        promise39();
        promise40();
    }

    private static void promises18to23() {
        LendingDesk x = oneLoan();
        x.lend(0, 1, 5, 30, 10);
        x.pledge(1, 2, 3);
        x.addBorrower(9);
        x.bring(1, 1, 30);
        x.lend(1, 1, 30, 11, 5);
        C.same("pledgedUnits", x.pledgedUnits(0, 1), 25);
        C.same("pledgedUnits", x.pledgedUnits(0, 2), 3);
        C.same("pledgedUnits", x.pledgedUnits(1, 1), 30);
        C.same("loansOf", x.loansOf(0), 2);
        C.same("loansOf", x.loansOf(1), 1);
        C.same("debtOf", x.debtOf(0), 130);
        C.same("debtOf", x.debtOf(1), 11);
        C.same("wealth", x.wealth(0), 50 + 3600);
        C.same("wealth", x.wealth(1), 9 + 300);
        x.setPrice(1, 1);
        x.setPrice(2, 1);
        C.same("wealth at another price", x.wealth(1), 9 + 30);
        x.pass(1);
        C.same("wealth after interest and defaults", x.wealth(1), 9 + 30 - 1);
        C.same("defaults", x.defaults(0), 2);
        C.same("defaults", x.defaults(1), 0);
        C.no("canBorrow", x.canBorrow(0));
        C.yes("canBorrow", x.canBorrow(1));
        for (int wrong : new int[] {-1, 2, 6, Integer.MAX_VALUE}) {
            refuses(x, Checks.INDEX, "pledgedUnits", y -> y.pledgedUnits(wrong, 0));
            refuses(x, Checks.INDEX, "defaults", y -> y.defaults(wrong));
            refuses(x, Checks.INDEX, "canBorrow", y -> y.canBorrow(wrong));
            refuses(x, Checks.INDEX, "loansOf", y -> y.loansOf(wrong));
            refuses(x, Checks.INDEX, "debtOf", y -> y.debtOf(wrong));
            refuses(x, Checks.INDEX, "wealth", y -> y.wealth(wrong));
        }
        refuses(x, Checks.INDEX, "pledgedUnits of kind 4", y -> y.pledgedUnits(0, 4));
        refuses(x, Checks.INDEX, "pledgedUnits of kind -1", y -> y.pledgedUnits(0, -1));
        C.yes("one default does not bar", oneDefault().canBorrow(0));
        C.same("wealth that is negative", negativeWealth().wealth(0), 6 + 10 - 60);
        LendingDesk poor = new LendingDesk();
        poor.addBorrower(0);
        C.same("wealth of nothing", poor.wealth(0), 0);
    }

    private static LendingDesk oneDefault() {
        LendingDesk x = oneLoan();
        x.pass(11);
        return x;
    }

    /** The borrower buys goods with the coins of the loan, and the prices fall. */
    private static LendingDesk negativeWealth() {
        LendingDesk x = new LendingDesk();
        for (int borrower = 0; borrower < 2; borrower++) {
            x.addBorrower(0);
            x.bring(borrower, borrower, 10);
        }
        x.lend(1, 1, 10, 60, 1);
        x.pass(2);
        x.lend(0, 0, 10, 60, 60);
        x.buy(0, 1, 6);
        x.setPrice(0, 1);
        x.setPrice(1, 1);
        return x;
    }

    private static void promises24to26() {
        LendingDesk x = oneBorrower(50);
        C.same("loanCount", x.loanCount(), 0);
        C.no("exists", x.exists(0));
        refuses(x, Checks.INDEX, "idAt(0) without loans", y -> y.idAt(0));
        x.lend(0, 0, 9, 5, 9);
        x.lend(0, 0, 9, 6, 9);
        x.lend(0, 0, 9, 7, 9);
        x.repay(1, 6);
        C.same("loanCount", x.loanCount(), 2);
        C.same("idAt", x.idAt(0), 0);
        C.same("idAt", x.idAt(1), 2);
        C.yes("exists", x.exists(2));
        C.no("exists", x.exists(1));
        C.no("exists", x.exists(3));
        C.no("exists", x.exists(-1));
        C.no("exists", x.exists(Integer.MIN_VALUE));
        refuses(x, Checks.INDEX, "idAt(2)", y -> y.idAt(2));
        refuses(x, Checks.INDEX, "idAt(-1)", y -> y.idAt(-1));
        refuses(x, Checks.INDEX, "idAt(10)", y -> y.idAt(10));
    }

    private static void promises27to35() {
        LendingDesk x = oneLoan();
        x.addBorrower(0);
        x.bring(1, 3, 40);
        x.pass(2);
        x.lend(1, 3, 30, 200, 7);
        x.pass(3);
        C.same("borrowerOf", x.borrowerOf(1), 1);
        C.same("principal", x.principal(1), 200);
        C.same("interest", x.interest(1), 6);
        C.same("debt", x.debt(1), 206);
        C.same("rate", x.rate(1), 10);
        C.same("dueDay", x.dueDay(1), 9);
        C.same("collateral", x.collateral(1, 3), 30);
        C.same("collateral", x.collateral(1, 0), 0);
        C.same("collateralValue", x.collateralValue(1), 300);
        C.no("isCovered", x.isCovered(1));
        C.same("pledge", x.pledge(1, 3, 9), 390);
        C.yes("isCovered", x.isCovered(1));
        x.repay(1, 6);
        x.release(1, 3, 9);
        C.yes("isCovered with equal sides", x.isCovered(1));
        for (int wrong : new int[] {-1, 2, Integer.MAX_VALUE}) {
            refuses(x, Checks.MISSING, "borrowerOf", y -> y.borrowerOf(wrong));
            refuses(x, Checks.MISSING, "principal", y -> y.principal(wrong));
            refuses(x, Checks.MISSING, "interest", y -> y.interest(wrong));
            refuses(x, Checks.MISSING, "debt", y -> y.debt(wrong));
            refuses(x, Checks.MISSING, "rate", y -> y.rate(wrong));
            refuses(x, Checks.MISSING, "dueDay", y -> y.dueDay(wrong));
            refuses(x, Checks.MISSING, "collateral", y -> y.collateral(wrong, 4));
            refuses(x, Checks.MISSING, "collateralValue", y -> y.collateralValue(wrong));
            refuses(x, Checks.MISSING, "isCovered", y -> y.isCovered(wrong));
            refuses(x, Checks.MISSING, "missingUnits", y -> y.missingUnits(wrong, 4));
            refuses(x, Checks.MISSING, "daysToDefault", y -> y.daysToDefault(wrong));
            refuses(x, Checks.MISSING, "daysToDefaultByDays", y -> y.daysToDefaultByDays(wrong));
            refuses(x, Checks.MISSING, "interestAfter", y -> y.interestAfter(wrong, 61));
            refuses(x, Checks.MISSING, "formatLoan", y -> y.formatLoan(wrong));
        }
        refuses(x, Checks.INDEX, "collateral of kind 4", y -> y.collateral(0, 4));
        refuses(x, Checks.INDEX, "collateral of kind -1", y -> y.collateral(0, -1));
    }

    private static void promise36() {
        LendingDesk x = oneLoan();
        C.same("missingUnits while covered", x.missingUnits(0, 0), 0);
        x.setPrice(1, 7);
        x.setPrice(0, 3);
        C.same("missingUnits that go in evenly", x.missingUnits(0, 2), 1);
        C.same("missingUnits that do not", x.missingUnits(0, 0), 4);
        C.same("missingUnits of the pledged kind", x.missingUnits(0, 1), 2);
        x.pledge(0, 0, 3);
        C.no("one fewer is not enough", x.isCovered(0));
        x.pledge(0, 0, 1);
        C.yes("they are enough", x.isCovered(0));
        refuses(x, Checks.INDEX, "missingUnits of kind 4", y -> y.missingUnits(0, 4));
        refuses(x, Checks.INDEX, "missingUnits of kind -1", y -> y.missingUnits(0, -1));
    }

    private static void promises37and38() {
        LendingDesk x = oneBorrower(0);
        x.lend(0, 0, 20, 100, 10);
        x.lend(0, 3, 10, 66, 60);
        x.setPrice(3, 7);
        String earlier = Picture.of(x);
        C.same("by the term", x.daysToDefault(0), 11);
        C.same("by the term, day by day", x.daysToDefaultByDays(0), 11);
        C.same("by the interest", x.daysToDefault(1), 5);
        C.same("by the interest, day by day", x.daysToDefaultByDays(1), 5);
        C.same("the desk itself stays", Picture.of(x), earlier);
        x.setPrice(3, 1);
        C.same("at least 1", x.daysToDefault(1), 1);
        C.same("at least 1, day by day", x.daysToDefaultByDays(1), 1);
        C.same("picture of one is of no matter for the other", x.daysToDefaultByDays(0), 11);
        x.setPrice(0, 5);
        C.same("a debt equal to the value", x.daysToDefault(0), 1);
        x.setPrice(0, 10);
        x.pass(10);
        C.same("on the due day", x.daysToDefault(0), 1);
        C.same("on the due day, day by day", x.daysToDefaultByDays(0), 1);
        x.lend(0, 2, 90, 1, 60);
        C.same("the longest term", x.daysToDefault(2), 61);
        C.same("the longest term, day by day", x.daysToDefaultByDays(2), 61);
    }

    private static void promise39() {
        LendingDesk x = oneBorrower(0);
        x.lend(0, 0, 20, 101, 3);
        x.pass(1);
        C.same("interestAfter(0)", x.interestAfter(0, 0), 2);
        C.same("interestAfter(1)", x.interestAfter(0, 1), 4);
        C.same("interestAfter(60)", x.interestAfter(0, 60), 122);
        refuses(x, Checks.ARGUMENT, "interestAfter(-1)", y -> y.interestAfter(0, -1));
        refuses(x, Checks.ARGUMENT, "interestAfter(61)", y -> y.interestAfter(0, 61));
        refuses(x, Checks.MISSING, "interestAfter of no loan", y -> y.interestAfter(1, 61));
    }

    private static void promise40() {
        LendingDesk x = oneBorrower(0);
        C.same("by the value", x.greatestPrincipal(0, 0, 20), 133);
        C.same("that goes in evenly", x.greatestPrincipal(0, 0, 30), 200);
        x.setPrice(1, 99);
        C.same("by the range", x.greatestPrincipal(0, 1, 90), 500);
        x.lend(0, 1, 90, 500, 60);
        x.lend(0, 0, 90, 400, 60);
        C.same("by the capital", x.greatestPrincipal(0, 2, 90), 100);
        refuses(x, Checks.INDEX, "greatestPrincipal of 1", y -> y.greatestPrincipal(1, 0, 0));
        refuses(x, Checks.INDEX, "greatestPrincipal of -1", y -> y.greatestPrincipal(-1, 0, 1));
        refuses(x, Checks.INDEX, "greatestPrincipal on kind 4", y -> y.greatestPrincipal(0, 4, 0));
        refuses(x, Checks.ARGUMENT, "greatestPrincipal on 0", y -> y.greatestPrincipal(0, 2, 0));
        refuses(x, Checks.ARGUMENT, "greatestPrincipal on 100", y -> y.greatestPrincipal(0, 2, 100));
        refuses(x, Checks.MISSING, "greatestPrincipal on too many", y -> y.greatestPrincipal(0, 2, 91));
        x.setPrice(2, 1);
        refuses(x, Checks.MISSING, "greatestPrincipal on a unit of 1", y -> y.greatestPrincipal(0, 2, 1));
        C.same("the least that can be lent", x.greatestPrincipal(0, 2, 2), 1);
        x.setPrice(2, 10);
        x.lend(0, 2, 80, 100, 60);
        refuses(x, Checks.MISSING, "greatestPrincipal without capital", y -> y.greatestPrincipal(0, 2, 9));
        refuses(twoDefaults(), Checks.MISSING, "greatestPrincipal when barred", y -> y.greatestPrincipal(0, 2, 9));
        LendingDesk full = oneBorrower(0);
        for (int i = 0; i < 10; i++) {
            full.lend(0, 0, 1, 1, 60);
        }
        refuses(full, Checks.MISSING, "greatestPrincipal with 10 loans", y -> y.greatestPrincipal(0, 2, 9));
    }

    // ---- promises 41 and 42 ----

    private static void orders() {
        LendingDesk x = oneBorrower(0);
        refuses(x, Checks.MISSING, "riskiest without loans", LendingDesk::riskiest);
        refuses(x, Checks.MISSING, "loanByDebt without loans", y -> y.loanByDebt(0));
        x.lend(0, 0, 30, 50, 9);
        x.lend(0, 1, 30, 60, 7);
        x.lend(0, 2, 30, 50, 7);
        x.lend(0, 3, 30, 50, 7);
        C.same("riskiest of equal ones", x.riskiest(), 1);
        int[] order = {1, 2, 3, 0};
        for (int rank = 0; rank < 4; rank++) {
            C.same("loanByDebt", x.loanByDebt(rank), order[rank]);
        }
        refuses(x, Checks.MISSING, "loanByDebt(4)", y -> y.loanByDebt(4));
        refuses(x, Checks.MISSING, "loanByDebt(-1)", y -> y.loanByDebt(-1));
        x.setPrice(3, 1);
        C.same("riskiest by its value", x.riskiest(), 3);
        x.repay(1, 30);
        C.same("loanByDebt after a repayment", x.loanByDebt(3), 1);
        x.pass(1);
        C.same("riskiest after a default", x.riskiest(), 1);
    }

    // ---- promises 43 to 55 ----

    private static void ledgerAndSums() {
        promises43to47();
        ledgerLimit();
        promises48to50();
        promises51to55();
        promise55unbalanced();
    }

    private static void promises43to47() {
        LendingDesk x = oneLoan();
        x.lend(0, 0, 30, 60, 20);
        refuses(x, Checks.MISSING, "ledgerDay(0) of none", y -> y.ledgerDay(0));
        C.same("ledgerOf without entries", x.ledgerOf(0), 0);
        x.repay(1, 10);
        x.repay(0, 5);
        x.repay(1, 7);
        x.pass(2);
        x.repay(1, 4);
        x.repay(0, 97);
        C.same("ledgerSize", x.ledgerSize(), 4);
        int[][] due = {{0, 1, 17}, {0, 0, 5}, {2, 1, 4}, {2, 0, 97}};
        for (int i = 0; i < 4; i++) {
            C.same("ledgerDay", x.ledgerDay(i), due[i][0]);
            C.same("ledgerLoan", x.ledgerLoan(i), due[i][1]);
            C.same("ledgerAmount", x.ledgerAmount(due[i][0], due[i][1]), due[i][2]);
        }
        C.no("loan 0 is repaid", x.exists(0));
        C.same("ledgerOf", x.ledgerOf(0), 102);
        C.same("ledgerOf", x.ledgerOf(1), 21);
        C.same("ledgerOf another id", x.ledgerOf(2), 0);
        C.same("ledgerOf(-1)", x.ledgerOf(-1), 0);
        refuses(x, Checks.MISSING, "ledgerAmount of another day", y -> y.ledgerAmount(1, 0));
        refuses(x, Checks.MISSING, "ledgerAmount of another id", y -> y.ledgerAmount(0, 2));
        for (int wrong : new int[] {-1, 4, 20, Integer.MAX_VALUE}) {
            refuses(x, Checks.MISSING, "ledgerDay", y -> y.ledgerDay(wrong));
            refuses(x, Checks.MISSING, "ledgerLoan", y -> y.ledgerLoan(wrong));
        }
        refuses(x, Checks.STATE, "repay that is refused", y -> y.repay(1, 999));
    }

    private static void ledgerLimit() {
        LendingDesk x = oneBorrower(0);
        x.lend(0, 0, 60, 100, 60);
        for (int i = 0; i < 20; i++) {
            x.repay(0, 1);
            x.pass(1);
        }
        C.same("a full ledger", x.ledgerSize(), 20);
        C.same("the oldest entry", x.ledgerDay(0), 0);
        x.repay(0, 3);
        C.same("ledgerSize stays", x.ledgerSize(), 20);
        C.same("the oldest entry went", x.ledgerDay(0), 1);
        C.same("the newest entry", x.ledgerDay(19), 20);
        C.same("its coins", x.ledgerAmount(20, 0), 3);
        C.same("ledgerOf what is left", x.ledgerOf(0), 22);
        refuses(x, Checks.MISSING, "ledgerAmount of the entry that went", y -> y.ledgerAmount(0, 0));
        x.lend(0, 1, 9, 5, 60);
        x.repay(1, 4);
        C.same("another entry of the day", x.ledgerLoan(19), 1);
        C.same("the entries moved on", x.ledgerLoan(18), 0);
        C.same("with their coins", x.ledgerAmount(20, 0), 3);
        C.same("with their days", x.ledgerDay(0), 2);
        x.pass(1);
        x.repay(0, 1);
        C.same("the other entry moved on", x.ledgerLoan(18), 1);
        C.same("the newest entry", x.ledgerLoan(19), 0);
        x.undo();
        x.undo();
        C.same("undo brings the oldest entry back", x.ledgerDay(0), 2);
        x.repay(0, 2);
        C.same("adding up creates no entry", x.ledgerDay(0), 2);
        C.same("its coins", x.ledgerAmount(20, 0), 5);
    }

    private static void promises48to50() {
        LendingDesk x = oneLoan();
        C.same("repaidLoans", x.repaidLoans(), 0);
        x.repay(0, 99);
        C.same("repaidLoans after a part", x.repaidLoans(), 0);
        x.repay(0, 1);
        C.same("repaidLoans", x.repaidLoans(), 1);
        x.lend(0, 0, 3, 20, 60);
        x.lend(0, 1, 3, 20, 60);
        x.setPrice(0, 1);
        x.setPrice(1, 2);
        C.same("defaultedLoans", x.defaultedLoans(), 0);
        x.pass(1);
        C.same("defaultedLoans", x.defaultedLoans(), 2);
        C.same("losses add up", x.losses(), 18 + 15);
        C.same("repaidLoans stays", x.repaidLoans(), 1);
    }

    private static void promises51to55() {
        LendingDesk x = oneBorrower(50);
        C.refuses(Checks.ARITHMETIC, "meanDebt without loans", x::meanDebt);
        C.refuses(Checks.ARITHMETIC, "defaultShare without loans", x::defaultShare);
        C.yes("isBalanced", x.isBalanced());
        x.lend(0, 0, 30, 100, 60);
        x.lend(0, 1, 30, 51, 60);
        x.lend(0, 2, 30, 49, 1);
        C.same("totalCoins", x.totalCoins(), 1050);
        C.same("totalUnits", x.totalUnits(0), 90);
        C.same("meanDebt", x.meanDebt(), 200.0 / 3);
        C.same("defaultShare", x.defaultShare(), 0f);
        x.pass(2);
        C.same("defaultShare", x.defaultShare(), 1f / 3);
        C.same("totalUnits with stock", x.totalUnits(2), 90);
        C.same("stock", x.stock(2), 6);
        C.same("meanDebt", x.meanDebt(), 77.5);
        C.yes("isBalanced", x.isBalanced());
        x.repay(0, 102);
        x.repay(1, 53);
        C.refuses(Checks.ARITHMETIC, "meanDebt when all are gone", x::meanDebt);
        C.same("defaultShare stays", x.defaultShare(), 1f / 3);
        C.same("totalCoins", x.totalCoins(), 1050);
        C.yes("isBalanced", x.isBalanced());
        refuses(x, Checks.INDEX, "totalUnits of kind 4", y -> y.totalUnits(4));
        refuses(x, Checks.INDEX, "totalUnits of kind -1", y -> y.totalUnits(-1));
    }

    /** No run of calls unbalances the desk, so its state is changed from outside. */
    private static void promise55unbalanced() {
        C.no("isBalanced with a coin too many", tampered(-1, "funds", 901).isBalanced());
        C.yes("isBalanced with the same coins", tampered(-1, "funds", 900).isBalanced());
        for (int kind = 0; kind < 4; kind++) {
            C.no("isBalanced with a unit too many", tampered(kind, "stored", 1).isBalanced());
        }
        C.no("isBalanced with a loan that outlives the longest term", tampered(-2, "lastDay", 200).isBalanced());
        C.yes("isBalanced with another due day", tampered(-2, "lastDay", 30).isBalanced());
    }

    // ---- promises 56 to 61 ----

    private static void lineAndPrograms() {
        promises56and57();
        promise58();
        promise59();
        promise59all();
        promise60();
        promise61();
    }

    private static void promises56and57() {
        LendingDesk x = oneLoan();
        C.refuses(Checks.INDEX, "lineChar(0) of an empty line", () -> x.lineChar(0));
        x.pledge(0, 3, 7);
        x.pass(4);
        String due = "L0 b0 100+4 @10 d10 1x20 3x7";
        C.same("formatLoan", x.formatLoan(0), due.length());
        C.same("line", Picture.lineOf(x), due);
        x.lend(0, 0, 2, 1, 1);
        C.same("the line stays", Picture.lineOf(x), due);
        C.refuses(Checks.MISSING, "formatLoan(2)", () -> x.formatLoan(2));
        C.same("the line stays", Picture.lineOf(x), due);
        C.same("formatLoan", x.formatLoan(1), 20);
        C.same("the line is replaced", Picture.lineOf(x), "L1 b0 1+0 @15 d5 0x2");
        C.refuses(Checks.INDEX, "lineChar(-1)", () -> x.lineChar(-1));
        C.refuses(Checks.INDEX, "lineChar of the length", () -> x.lineChar(20));
        LendingDesk y = new LendingDesk();
        for (int i = 0; i < 2; i++) {
            y.addBorrower(500);
            y.bring(i, 0, 99);
            y.bring(i, 2, 99);
        }
        y.lend(0, 0, 9, 1, 60);
        y.lend(0, 0, 9, 1, 60);
        y.lend(1, 0, 9, 1, 60);
        y.lend(1, 0, 20, 100, 30);
        y.pledge(3, 2, 7);
        C.same("the length of the example's like", y.formatLoan(3), "L3 b1 100+0 @15 d30 0x20 2x7".length());
        C.same("the example's like", Picture.lineOf(y), "L3 b1 100+0 @15 d30 0x20 2x7");
    }

    private static void promise58() {
        LendingDesk x = new LendingDesk();
        C.same("append of a blank", x.append(' '), 1);
        C.same("append of ~", x.append('~'), 2);
        C.refuses(Checks.ARGUMENT, "append of 31", () -> x.append((char) 31));
        C.refuses(Checks.ARGUMENT, "append of 127", () -> x.append((char) 127));
        C.refuses(Checks.ARGUMENT, "append of 65535", () -> x.append((char) 65535));
        for (int i = 3; i <= 60; i++) {
            C.same("append", x.append('x'), i);
        }
        C.refuses(Checks.STATE, "append of a 61st", () -> x.append('x'));
        C.refuses(Checks.ARGUMENT, "append of a wrong 61st", () -> x.append((char) 10));
        C.refuses(Checks.ARGUMENT, "run", x::run);
        C.same("append to an empty buffer", x.append('x'), 1);
    }

    private static void promise59() {
        LendingDesk x = new LendingDesk();
        C.same("run", runOf(x, "borrower 007;bring 0 2 090;lend 0 2 60 200 8;days 2"), 4);
        C.same("coins", x.coins(0), 207);
        C.same("day", x.day(), 2);
        C.same("run is one change", x.undoableCount(), 1);
        C.same("append after run", x.append('d'), 1);
        type(x, "ays 1");
        C.same("run", x.run(), 1);
        C.same("run", runOf(x, "price 3 9;pledge 0 2 5;release 0 2 05;repay 0 4"), 4);
        C.same("debt", x.debt(0), 202);
        C.same("run", runOf(x, "days 8;buy 0 2 3"), 2);
        C.same("units", x.units(0, 2), 90 - 22 + 3);
        String earlier = Picture.of(x);
        C.refuses(Checks.STATE, "run that fails", () -> runOf(x, "days 5;borrower 5;price 0 0;days 1"));
        C.same("none is executed", Picture.of(x).replace("failed 2", "failed throws.NoSuchElementException"), earlier);
        C.same("append after a failed run", x.append('d'), 1);
        C.refuses(Checks.ARGUMENT, "run of d", x::run);
        C.same("append after a malformed run", x.append('d'), 1);
    }

    /** Each command reaches the method that corresponds to it, with the arguments in the same order. */
    private static void promise59all() {
        sameByCommand("borrower 44", y -> y.addBorrower(44));
        sameByCommand("bring 1 2 33", y -> y.bring(1, 2, 33));
        sameByCommand("price 2 31", y -> y.setPrice(2, 31));
        sameByCommand("lend 1 3 22 11 44", y -> y.lend(1, 3, 22, 11, 44));
        sameByCommand("pledge 1 3 21", y -> y.pledge(1, 3, 21));
        sameByCommand("release 1 1 3", y -> y.release(1, 1, 3));
        sameByCommand("repay 1 19", y -> y.repay(1, 19));
        sameByCommand("buy 1 0 2", y -> y.buy(1, 0, 2));
        sameByCommand("days 17", y -> y.pass(17));
    }

    private static LendingDesk busy() {
        LendingDesk x = new LendingDesk();
        for (int b = 0; b < 2; b++) {
            x.addBorrower(60);
            for (int kind = 0; kind < 4; kind++) {
                x.bring(b, kind, 80);
            }
        }
        x.lend(0, 0, 20, 50, 1);
        x.lend(1, 1, 20, 40, 50);
        x.pass(2);
        return x;
    }

    private static void sameByCommand(String command, Consumer<LendingDesk> call) {
        LendingDesk byCall = busy();
        LendingDesk byCommand = busy();
        call.accept(byCall);
        C.same("run of " + command, runOf(byCommand, command), 1);
        C.same("picture after " + command, Picture.of(byCommand), Picture.of(byCall));
    }

    private static void promise60() {
        LendingDesk x = new LendingDesk();
        C.refuses(Checks.MISSING, "errorPosition of none", x::errorPosition);
        String[] texts = {"", "b", "bo", "bx", "br", "x", " ", ";", "borrower", "borrower ", "borrower 1234",
            "borrower 12;", "borrower x", "borrower 1 ", "Borrower 1", "bring 12 1 1", "bring 1", "bring 1 1 ",
            "lend 0 0 1 1", "lend 0 0 1 1 1 ", "re", "rep", "rel", "rex", "repay 1 1;;", "price 1 100;da",
            "pr", "pl", "px", "days 1;days 1;days 1x", "days  1", "pledge 1234", "pledge 12 34", "buy 0 0 1;b",
            "days -1", "days 0001", "b1", "1",
            "release 999 9 999 "};
        int[] due = {0, 1, 2, 1, 2, 0, 0, 0, 8, 9, 12, 12, 9, 10, 0, 7, 7, 10, 12, 14, 2, 3, 3, 2, 10, 14, 2, 2, 1,
            20, 5, 10, 11, 11, 5, 8, 1, 0, 17};
        for (int i = 0; i < texts.length; i++) {
            String text = texts[i];
            C.refuses(Checks.ARGUMENT, "run of '" + text + "'", () -> runOf(x, text));
            C.same("errorPosition of '" + text + "'", x.errorPosition(), due[i]);
            C.same("the model's own position of '" + text + "'", PlainDesk.errorIn(text), due[i]);
        }
        runOf(x, "days 1");
        C.same("errorPosition stays after a good run", x.errorPosition(), 17);
        C.refuses(Checks.STATE, "run that fails", () -> runOf(x, "days 0"));
        C.same("errorPosition stays after a failure", x.errorPosition(), 17);
        x.undo();
        C.same("errorPosition stays after undo", x.errorPosition(), 17);
        C.refuses(Checks.ARGUMENT, "a program of 60 signs", () -> runOf(x,
                "days 1;days 1;days 1;days 1;days 1;days 1;days 1;days 1;days"));
        C.same("its error position", x.errorPosition(), 60);
        C.same("a full buffer that runs", runOf(x,
                "days 001;days 001;days 01;days 1;days 1;days 1;days 1;days 1"), 8);
    }

    private static void promise61() {
        LendingDesk x = new LendingDesk();
        C.refuses(Checks.MISSING, "failedCommand of none", x::failedCommand);
        C.refuses(Checks.ARGUMENT, "a malformed run", () -> runOf(x, "days"));
        C.refuses(Checks.MISSING, "failedCommand of none", x::failedCommand);
        C.refuses(Checks.STATE, "repay of no loan", () -> runOf(x, "borrower 1;repay 0 1"));
        C.same("failedCommand", x.failedCommand(), 1);
        C.same("borrowerCount", x.borrowerCount(), 0);
        C.refuses(Checks.STATE, "bring of kind 4", () -> runOf(x, "bring 0 4 1"));
        C.same("failedCommand", x.failedCommand(), 0);
        C.refuses(Checks.STATE, "days 61", () -> runOf(x, "days 1;days 1;days 61;days 99"));
        C.same("failedCommand is the first one", x.failedCommand(), 2);
        runOf(x, "days 1");
        C.same("failedCommand stays", x.failedCommand(), 2);
        C.same("errorPosition stays", x.errorPosition(), 4);
        C.refuses(Checks.STATE, "a seventh borrower", () -> runOf(x, "borrower 1;borrower 1;borrower 501"));
        C.same("failedCommand", x.failedCommand(), 2);
        C.same("undoableCount", x.undoableCount(), 1);
    }

    // ---- promises 62 to 65 ----

    private static void undoAndCopies() {
        promises62and63();
        undoOfEverything();
        undoOfLedgerAndLosses();
        rowsAreUsedAgain();
        promises64and65();
    }

    private static void promises62and63() {
        LendingDesk x = new LendingDesk();
        C.refuses(Checks.STATE, "undo of nothing", x::undo);
        for (int i = 1; i <= 10; i++) {
            x.setPrice(0, 10 + i);
            C.same("undoableCount", x.undoableCount(), Math.min(i, 8));
        }
        for (int i = 7; i >= 0; i--) {
            C.same("undo", x.undo(), i);
            C.same("price", x.price(0), 12 + i);
        }
        C.refuses(Checks.STATE, "a ninth undo", x::undo);
        C.same("price", x.price(0), 12);
        x.setPrice(0, 12);
        C.same("a change without effect counts", x.undoableCount(), 1);
        C.refuses(Checks.ARGUMENT, "setPrice", () -> x.setPrice(0, 0));
        C.same("a refused change does not", x.undoableCount(), 1);
        x.save();
        x.day();
        x.append('q');
        C.same("other calls do not", x.undoableCount(), 1);
        x.setPrice(1, 20);
        x.undo();
        x.setPrice(1, 30);
        C.same("a change after undo", x.undoableCount(), 2);
        x.undo();
        C.same("price", x.price(1), 10);
    }

    private static void undoOfEverything() {
        undoes("addBorrower", y -> y.addBorrower(3));
        undoes("bring", y -> y.bring(0, 0, 3));
        undoes("setPrice", y -> y.setPrice(0, 3));
        undoes("lend", y -> y.lend(1, 0, 3, 4, 5));
        undoes("pledge", y -> y.pledge(1, 0, 3));
        undoes("release", y -> y.release(1, 1, 3));
        undoes("repay", y -> y.repay(1, 3));
        undoes("repay of all", y -> y.repay(1, 42));
        undoes("buy", y -> y.buy(1, 0, 3));
        undoes("pass", y -> y.pass(60));
        undoes("run", y -> runOf(y, "days 9;repay 1 9;price 0 9;borrower 9"));
        LendingDesk x = busy();
        x.lend(1, 2, 9, 5, 5);
        x.undo();
        C.same("undo takes back the next free id", x.lend(1, 2, 9, 5, 5), 2);
        x.formatLoan(1);
        String line = Picture.lineOf(x);
        x.append('d');
        x.save();
        x.pass(1);
        x.undo();
        C.same("undo keeps the line", Picture.lineOf(x), line);
        C.same("undo keeps the input buffer", x.append('a'), 2);
        C.same("undo keeps the saved copy", x.restore(), 2);
    }

    private static void undoOfLedgerAndLosses() {
        LendingDesk x = oneBorrower(0);
        x.addBorrower(9);
        x.bring(1, 3, 9);
        x.lend(0, 0, 3, 20, 60);
        x.lend(1, 3, 9, 5, 60);
        x.repay(1, 2);
        x.repay(0, 3);
        String earlier = withoutUndo(x);
        x.save();
        x.setPrice(0, 1);
        x.pass(1);
        C.same("losses", x.losses(), 15);
        C.same("the loan that is left", x.idAt(0), 1);
        x.repay(1, 1);
        x.undo();
        x.undo();
        C.same("undo takes back losses", x.losses(), 0);
        x.undo();
        C.same("picture after undo", withoutUndo(x), earlier);
        x.pass(2);
        x.repay(1, 2);
        x.repay(0, 17);
        x.restore();
        C.same("picture after restore", withoutUndo(x), earlier);
        x.repay(1, 3);
        x.repay(0, 17);
        x.undo();
        x.undo();
        C.same("picture after undo of both repayments", withoutUndo(x), earlier);
    }

    /** What is made anew after undo or a repayment starts without anything of the earlier one. */
    private static void rowsAreUsedAgain() {
        LendingDesk x = new LendingDesk();
        x.addBorrower(100);
        x.bring(0, 1, 30);
        x.lend(0, 1, 30, 9, 1);
        x.pass(2);
        for (int i = 0; i < 4; i++) {
            x.undo();
        }
        C.same("borrowerCount", x.borrowerCount(), 0);
        x.addBorrower(5);
        C.same("units of the later borrower", x.units(0, 1), 0);
        C.same("defaults of the later borrower", x.defaults(0), 0);
        x.bring(0, 2, 30);
        C.same("id of the later loan", x.lend(0, 2, 30, 9, 5), 0);
        C.same("collateral of the later loan", x.collateral(0, 1), 0);
        x.pass(1);
        x.repay(0, 10);
        x.bring(0, 3, 3);
        x.lend(0, 3, 3, 9, 5);
        C.same("collateral after a repayment", x.collateral(1, 2), 0);
        LendingDesk y = new LendingDesk();
        y.save();
        y.addBorrower(0);
        y.bring(0, 0, 9);
        y.lend(0, 0, 9, 5, 1);
        y.pass(2);
        y.restore();
        y.addBorrower(0);
        C.same("defaults after restore", y.defaults(0), 0);
        C.same("units after restore", y.units(0, 0), 0);
        C.same("interest after a repayment", x.interest(1), 0);
        C.yes("isBalanced", x.isBalanced());
    }

    /** Undo brings back the picture before the change. */
    private static void undoes(String what, Consumer<LendingDesk> change) {
        LendingDesk x = busy();
        String earlier = withoutUndo(x);
        change.accept(x);
        C.no("there is a change by " + what, withoutUndo(x).equals(earlier));
        C.same("undo of " + what, x.undo(), 7);
        C.same("picture after undo of " + what, withoutUndo(x), earlier);
    }

    private static void promises64and65() {
        LendingDesk x = busy();
        C.refuses(Checks.STATE, "restore without a copy", x::restore);
        String earlier = withoutUndo(x);
        C.same("save", x.save(), 1);
        C.same("save keeps what can be undone", x.undoableCount(), 8);
        x.lend(1, 2, 9, 5, 5);
        x.repay(1, 5);
        x.pass(10);
        x.setPrice(3, 1);
        x.addBorrower(5);
        C.same("restore", x.restore(), 1);
        C.same("picture after restore", withoutUndo(x), earlier);
        C.same("nothing can be undone", x.undoableCount(), 0);
        C.refuses(Checks.STATE, "undo after restore", x::undo);
        C.same("restore takes back the next free id", x.lend(1, 2, 9, 5, 5), 2);
        C.same("the copy stays available", x.restore(), 1);
        C.same("picture after another restore", withoutUndo(x), earlier);
        x.lend(1, 2, 9, 5, 5);
        C.same("save replaces the copy", x.save(), 2);
        String later = withoutUndo(x);
        x.pass(60);
        C.same("restore of the later copy", x.restore(), 2);
        C.same("picture of the later copy", withoutUndo(x), later);
        x.append('d');
        x.formatLoan(1);
        String line = Picture.lineOf(x);
        x.restore();
        C.same("restore keeps the input buffer", x.append('a'), 2);
        C.same("restore keeps the line", Picture.lineOf(x), line);
    }
}
