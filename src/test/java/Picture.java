/** Everything that an object tells of itself, as one text. */
final class Picture {
    private Picture() {
    }

    static String of(LendingDesk x) {
        StringBuilder t = new StringBuilder();
        t.append("day ").append(x.day()).append(" capital ").append(x.capital());
        t.append(" repaid ").append(x.repaidLoans()).append(" defaulted ").append(x.defaultedLoans());
        t.append(" losses ").append(x.losses()).append(" coins ").append(x.totalCoins());
        for (int k = 0; k < 4; k++) {
            t.append(" k").append(x.price(k)).append(',').append(x.stock(k)).append(',').append(x.totalUnits(k));
        }
        for (int b = 0; b < x.borrowerCount(); b++) {
            t.append("\nb").append(x.coins(b)).append(',').append(x.defaults(b)).append(',').append(x.canBorrow(b));
            t.append(',').append(x.loansOf(b)).append(',').append(x.debtOf(b)).append(',').append(x.wealth(b));
            for (int k = 0; k < 4; k++) {
                t.append(' ').append(x.units(b, k)).append('/').append(x.pledgedUnits(b, k));
            }
        }
        for (int i = 0; i < x.loanCount(); i++) {
            int id = x.idAt(i);
            t.append("\nl").append(id).append(',').append(x.borrowerOf(id)).append(',').append(x.principal(id));
            t.append(',').append(x.interest(id)).append(',').append(x.debt(id)).append(',').append(x.rate(id));
            t.append(',').append(x.dueDay(id)).append(',').append(x.collateralValue(id));
            t.append(',').append(x.isCovered(id)).append(',').append(x.daysToDefault(id));
            for (int k = 0; k < 4; k++) {
                t.append(' ').append(x.collateral(id, k)).append('/').append(x.missingUnits(id, k));
            }
            t.append(" rank ").append(x.loanByDebt(i));
        }
        for (int i = 0; i < x.ledgerSize(); i++) {
            t.append("\nr").append(x.ledgerDay(i)).append(',').append(x.ledgerLoan(i));
            t.append(',').append(x.ledgerAmount(x.ledgerDay(i), x.ledgerLoan(i)));
            t.append(',').append(x.ledgerOf(x.ledgerLoan(i)));
        }
        t.append("\nmean ").append(x.loanCount() == 0 ? "none" : Double.toString(x.meanDebt()));
        t.append(" share ").append(Checks.outcome(() -> x.defaultShare()).equals("returned")
                ? Float.toString(x.defaultShare()) : "none");
        t.append(" balanced ").append(x.isBalanced()).append(" undo ").append(x.undoableCount());
        t.append(" error ").append(Checks.answerOf(x::errorPosition));
        t.append(" failed ").append(Checks.answerOf(x::failedCommand));
        t.append(" riskiest ").append(Checks.answerOf(x::riskiest));
        return t.append("\nline ").append(lineOf(x)).toString();
    }

    static String lineOf(LendingDesk x) {
        StringBuilder t = new StringBuilder();
        for (int i = 0; Checks.outcome(line(x, i)).equals("returned"); i++) {
            t.append(x.lineChar(i));
        }
        return t.toString();
    }

    private static Runnable line(LendingDesk x, int i) {
        return () -> x.lineChar(i);
    }

    static String of(PlainDesk m) {
        PlainDesk.State s = m.s;
        StringBuilder t = new StringBuilder();
        int coins = s.capital;
        for (PlainDesk.Person p : s.people) {
            coins += p.coins;
        }
        t.append("day ").append(s.day).append(" capital ").append(s.capital);
        t.append(" repaid ").append(s.repaid).append(" defaulted ").append(s.defaulted);
        t.append(" losses ").append(s.losses).append(" coins ").append(coins);
        for (int k = 0; k < 4; k++) {
            int all = s.stock[k];
            for (PlainDesk.Person p : s.people) {
                all += p.units[k];
            }
            for (PlainDesk.Debt d : s.loans) {
                all += d.collateral[k];
            }
            t.append(" k").append(s.prices[k]).append(',').append(s.stock[k]).append(',').append(all);
        }
        for (int b = 0; b < s.people.size(); b++) {
            person(m, b, t);
        }
        for (int i = 0; i < s.loans.size(); i++) {
            loan(m, s.loans.get(i), t);
            t.append(" rank ").append(m.byDebt(i));
        }
        double debts = 0;
        for (PlainDesk.Debt d : s.loans) {
            debts += d.sum();
        }
        for (int[] entry : s.ledger) {
            int sum = s.ledger.stream().filter(e -> e[1] == entry[1]).mapToInt(e -> e[2]).sum();
            t.append("\nr").append(entry[0]).append(',').append(entry[1]).append(',').append(entry[2]);
            t.append(',').append(sum);
        }
        t.append("\nmean ").append(s.loans.isEmpty() ? "none" : Double.toString(debts / s.loans.size()));
        t.append(" share ").append(s.nextId == 0 ? "none" : Float.toString((float) s.defaulted / (float) s.nextId));
        t.append(" balanced ").append(true).append(" undo ").append(m.past.size());
        t.append(" error ").append(stored(m.errorPosition)).append(" failed ").append(stored(m.failedCommand));
        t.append(" riskiest ").append(Checks.answerOf(m::riskiest));
        return t.append("\nline ").append(m.line).toString();
    }

    private static String stored(int value) {
        return value < 0 ? "throws.NoSuchElementException" : Integer.toString(value);
    }

    private static void person(PlainDesk m, int b, StringBuilder t) {
        PlainDesk.Person p = m.s.people.get(b);
        int loans = 0;
        int debts = 0;
        int wealth = p.coins;
        int[] pledged = new int[4];
        for (PlainDesk.Debt d : m.s.loans) {
            if (d.borrower == b) {
                loans++;
                debts += d.sum();
                wealth += m.value(d) - d.sum();
                for (int k = 0; k < 4; k++) {
                    pledged[k] += d.collateral[k];
                }
            }
        }
        for (int k = 0; k < 4; k++) {
            wealth += p.units[k] * m.s.prices[k];
        }
        t.append("\nb").append(p.coins).append(',').append(p.defaults).append(',').append(p.defaults < 2);
        t.append(',').append(loans).append(',').append(debts).append(',').append(wealth);
        for (int k = 0; k < 4; k++) {
            t.append(' ').append(p.units[k]).append('/').append(pledged[k]);
        }
    }

    private static void loan(PlainDesk m, PlainDesk.Debt d, StringBuilder t) {
        t.append("\nl").append(d.id).append(',').append(d.borrower).append(',').append(d.principal);
        t.append(',').append(d.interest).append(',').append(d.sum()).append(',').append(d.rate);
        t.append(',').append(d.due).append(',').append(m.value(d));
        t.append(',').append(3 * d.sum() <= 2 * m.value(d)).append(',').append(m.daysToDefault(d.id));
        for (int k = 0; k < 4; k++) {
            t.append(' ').append(d.collateral[k]).append('/').append(m.missing(d.id, k));
        }
    }
}
