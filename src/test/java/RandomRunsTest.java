import java.util.Random;

/** Runs of drawn calls (the same ones every time), each answer and the whole picture compared with PlainDesk. */
public final class RandomRunsTest {
    private static final int RUNS = 400;
    private static final int CALLS = 512;

    private RandomRunsTest() {
    }

    public static void main(String[] args) {
        Checks checks = new Checks();
        for (int seed = 0; seed < RUNS; seed++) {
            new OneRun(seed, checks).go();
        }
        checks.finish();
    }

    private static final class OneRun {
        private final Random random;
        private final String name;
        private final Checks checks;
        private final LendingDesk x = new LendingDesk();
        private final PlainDesk m = new PlainDesk();
        private final boolean calm;
        private final boolean steady;

        OneRun(int seed, Checks checks) {
            random = new Random(seed);
            name = "run " + seed;
            this.checks = checks;
            calm = seed % 2 == 0;
            steady = seed % 4 == 0;
        }

        void go() {
            if (steady) {
                begin();
            }
            for (int call = 0; call < CALLS; call++) {
                String what = name + " call " + call + " " + oneCall();
                String got = Picture.of(x);
                String due = Picture.of(m);
                checks.same("picture after " + what, got, due);
                if (!got.equals(due)) {
                    return;
                }
            }
        }

        /** A steady run has goods for many small loans from the start, so that it fills the desk and the ledger. */
        private void begin() {
            for (int b = 0; b < 3; b++) {
                two("borrower", Checks.answerOf(() -> x.addBorrower(200)), 200);
                for (int k = 0; k < 4; k++) {
                    int person = b;
                    int kind = k;
                    two("bring", Checks.answerOf(() -> x.bring(person, kind, 99)), b, k, 99);
                }
            }
        }

        private int in(int lo, int hi) {
            return lo + random.nextInt(hi - lo + 1);
        }

        /** Mostly inside the range, now and then on or beyond its edges. */
        private int near(int lo, int hi) {
            switch (random.nextInt(calm ? 40 : 14)) {
                case 0: return lo - 1;
                case 1: return hi + 1;
                case 2: return hi;
                case 3: return lo;
                case 4: return random.nextInt();
                default: return in(lo, hi);
            }
        }

        private int id() {
            int n = m.s.loans.size();
            return n == 0 || random.nextInt(12) == 0 ? in(-1, m.s.nextId + 1) : m.s.loans.get(random.nextInt(n)).id;
        }

        private int b() {
            return near(0, Math.max(0, m.s.people.size() - 1));
        }

        private int k() {
            return near(0, 3);
        }

        private int few() {
            return random.nextInt(3) == 0 ? near(1, 99) : in(1, 25);
        }

        private void both(String what, String got, String due) {
            checks.same(name + " " + what, got, due);
        }

        private String oneCall() {
            int draw = random.nextInt(100);
            if (steady && draw < 90) {
                return steadyChange(draw);
            }
            if (draw < 70) {
                return change(draw);
            }
            return draw < 84 ? program() : draw < 92 ? look() : undoOrCopy(draw);
        }

        private String change(int draw) {
            int p = id();
            if (draw < 4) {
                int c = near(0, 500);
                return two("borrower", Checks.answerOf(() -> x.addBorrower(c)), c);
            }
            int b = b();
            int k = k();
            int n = few();
            if (draw < 14) {
                return two("bring", Checks.answerOf(() -> x.bring(b, k, n)), b, k, n);
            }
            if (draw < 20) {
                int c = calm ? in(5, 15) : near(1, 99);
                return two("price", Checks.answerOf(() -> x.setPrice(k, c)), k, c);
            }
            if (draw < 36) {
                int c = random.nextInt(2) == 0 ? near(1, 500) : Math.max(1, n * 20 / 3 + in(-3, 1));
                int t = near(1, 60);
                return two("lend", Checks.answerOf(() -> x.lend(b, k, n, c, t)), b, k, n, c, t);
            }
            if (draw < 42) {
                return two("pledge", Checks.answerOf(() -> x.pledge(p, k, n)), p, k, n);
            }
            if (draw < 47) {
                int few = in(1, 4);
                return two("release", Checks.answerOf(() -> x.release(p, k, few)), p, k, few);
            }
            if (draw < 58) {
                int c = random.nextInt(3) == 0 && exists(p) ? m.loan(p).sum() : random.nextInt(4) == 0
                        ? near(1, 999) : in(1, 9);
                return two("repay", Checks.answerOf(() -> x.repay(p, c)), p, c);
            }
            if (draw < 63) {
                int few = in(1, 12);
                return two("buy", Checks.answerOf(() -> x.buy(b, k, few)), b, k, few);
            }
            int d = random.nextInt(12) == 0 ? near(1, 60) : in(1, 3);
            return two("days", Checks.answerOf(() -> x.pass(d)), d);
        }

        private String steadyChange(int draw) {
            int p = id();
            if (draw < 30) {
                int b = in(0, 2);
                int k = in(0, 3);
                int n = in(1, 3);
                int t = in(20, 60);
                return two("lend", Checks.answerOf(() -> x.lend(b, k, n, 5, t)), b, k, n, 5, t);
            }
            if (draw < 70) {
                int c = in(1, 2);
                return two("repay", Checks.answerOf(() -> x.repay(p, c)), p, c);
            }
            if (draw < 75) {
                return two("days", Checks.answerOf(() -> x.pass(1)), 1);
            }
            return change(in(0, 57));
        }

        private boolean exists(int id) {
            return m.s.loans.stream().anyMatch(d -> d.id == id);
        }

        private String two(String what, String got, int... a) {
            StringBuilder full = new StringBuilder(what);
            for (int v : a) {
                full.append(' ').append(v);
            }
            both(full.toString(), got, Checks.answerOf(() -> m.change(what, a)));
            return full.toString();
        }

        private String command() {
            int b = in(0, Math.max(0, m.s.people.size() - 1));
            switch (random.nextInt(10)) {
                case 0: return "borrower " + in(0, 501);
                case 1: return "bring " + b + " " + in(0, 4) + " " + in(0, 99);
                case 2: return "price " + in(0, 3) + " " + in(4, 20);
                case 3: return "lend " + b + " " + in(0, 3) + " " + in(1, 9) + " " + in(1, 60) + " " + in(1, 40);
                case 4: return "pledge " + id() + " " + in(0, 3) + " " + in(1, 9);
                case 5: return "release " + id() + " " + in(0, 3) + " 1";
                case 6: return "repay " + id() + " " + in(1, 20);
                case 7: return "buy " + b + " " + in(0, 3) + " " + in(1, 3);
                case 8: return "bring " + b + " " + in(0, 3) + " 09";
                default: return "days " + in(1, 4);
            }
        }

        private String program() {
            StringBuilder t = new StringBuilder(command());
            for (int i = random.nextInt(5); i > 0; i--) {
                t.append(';').append(command());
            }
            if (random.nextInt(3) == 0) {
                String signs = " ;019bdelprx";
                t.setCharAt(random.nextInt(t.length()), signs.charAt(random.nextInt(signs.length())));
            }
            if (random.nextInt(4) == 0) {
                t.setLength(random.nextInt(t.length() + 1));
            }
            if (random.nextInt(20) == 0) {
                t.append((char) near(32, 126));
            }
            for (int i = 0; i < t.length(); i++) {
                char c = t.charAt(i);
                both("append " + (int) c, Checks.answerOf(() -> x.append(c)), Checks.answerOf(() -> m.append(c)));
            }
            // A program that waits in the buffer meets undo and restore there.
            if (random.nextInt(8) == 0) {
                undoOrCopy(random.nextInt(100));
            }
            if (random.nextInt(8) != 0) {
                both("run of " + t, Checks.answerOf(x::run), Checks.answerOf(m::run));
            }
            return "program " + t;
        }

        private String look() {
            int p = id();
            int b = b();
            int k = k();
            int n = few();
            int d = near(0, 60);
            int r = in(-1, 10);
            both("greatestPrincipal", Checks.answerOf(() -> x.greatestPrincipal(b, k, n)),
                    Checks.answerOf(() -> m.greatest(b, k, n)));
            both("interestAfter", Checks.answerOf(() -> x.interestAfter(p, d)),
                    Checks.answerOf(() -> m.interestAfter(p, d)));
            both("daysToDefaultByDays", Checks.answerOf(() -> x.daysToDefaultByDays(p)),
                    Checks.answerOf(() -> m.daysToDefault(p)));
            both("missingUnits", Checks.answerOf(() -> x.missingUnits(p, k)), Checks.answerOf(() -> m.missing(p, k)));
            both("loanByDebt", Checks.answerOf(() -> x.loanByDebt(r)), Checks.answerOf(() -> m.byDebt(r)));
            both("formatLoan", Checks.answerOf(() -> x.formatLoan(p)), Checks.answerOf(() -> m.format(p)));
            return "look";
        }

        private String undoOrCopy(int draw) {
            if (draw % 10 < 6) {
                both("undo", Checks.answerOf(x::undo), Checks.answerOf(m::undo));
                return "undo";
            }
            if (draw % 10 < 8) {
                both("save", Checks.answerOf(x::save), Checks.answerOf(m::save));
                return "save";
            }
            both("restore", Checks.answerOf(x::restore), Checks.answerOf(m::restore));
            return "restore";
        }
    }
}
