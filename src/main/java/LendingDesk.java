import java.util.NoSuchElementException;

/** A lending desk that grants loans against collateral, with interest, margin calls, defaults, and a ledger. */
public final class LendingDesk {
    private static final int KINDS = 4;
    private static final int FIRST_PRICE = 10;
    private static final int FIRST_CAPITAL = 1000;
    private static final int MAX_BORROWERS = 6;
    private static final int MAX_BROUGHT_COINS = 500;
    private static final int MAX_UNITS = 999;
    private static final int MAX_UNITS_A_CALL = 99;
    private static final int MAX_PRICE = 99;
    private static final int MAX_LOANS = 10;
    private static final int MAX_PRINCIPAL = 500;
    private static final int MAX_DAYS = 60;
    private static final int MAX_REPAYMENT = 999;
    private static final int DEFAULTS_THAT_BAR = 2;
    private static final int LEDGER_LIMIT = 20;
    private static final int HISTORY_LIMIT = 8;
    private static final int BUFFER_LIMIT = 60;
    private static final int MAX_ARGUMENTS = 5;
    private static final int NONE = -1;

    private static final Verb[] VERBS = Verb.values();

    private final Desk desk = new Desk();
    private final Desk before = new Desk();
    private final Desk trial = new Desk();
    private final Desk saved = new Desk();
    private final History history = new History();
    private final CommandReader reader = new CommandReader();
    private final char[] buffer = new char[BUFFER_LIMIT];
    private final StringBuilder line = new StringBuilder();
    private int bufferLength = 0;
    private boolean hasSaved = false;
    private int storedErrorPosition = NONE;
    private int storedFailedCommand = NONE;

    public LendingDesk() {
    }

    // ---- changes ----

    public int addBorrower(int coins) throws IllegalArgumentException, IllegalStateException {
        before.copyFrom(desk);
        return finishChange(desk.admitBorrower(coins));
    }

    public int bring(int borrower, int kind, int units)
            throws IndexOutOfBoundsException, IllegalArgumentException, IllegalStateException {
        before.copyFrom(desk);
        return finishChange(desk.bringUnits(borrower, kind, units));
    }

    public int setPrice(int kind, int price) throws IndexOutOfBoundsException, IllegalArgumentException {
        before.copyFrom(desk);
        return finishChange(desk.changePrice(kind, price));
    }

    public int lend(int borrower, int kind, int units, int principal, int term)
            throws IndexOutOfBoundsException, IllegalArgumentException, IllegalStateException {
        before.copyFrom(desk);
        return finishChange(desk.grantLoan(borrower, kind, units, principal, term));
    }

    public int pledge(int id, int kind, int units)
            throws NoSuchElementException, IndexOutOfBoundsException, IllegalArgumentException, IllegalStateException {
        before.copyFrom(desk);
        return finishChange(desk.pledgeUnits(id, kind, units));
    }

    public int release(int id, int kind, int units)
            throws NoSuchElementException, IndexOutOfBoundsException, IllegalArgumentException, IllegalStateException {
        before.copyFrom(desk);
        return finishChange(desk.releaseUnits(id, kind, units));
    }

    public int repay(int id, int coins)
            throws NoSuchElementException, IllegalArgumentException, IllegalStateException {
        before.copyFrom(desk);
        return finishChange(desk.repayLoan(id, coins));
    }

    public int buy(int borrower, int kind, int units)
            throws IndexOutOfBoundsException, IllegalArgumentException, IllegalStateException {
        before.copyFrom(desk);
        return finishChange(desk.sellUnits(borrower, kind, units));
    }

    public int pass(int days) throws IllegalArgumentException {
        before.copyFrom(desk);
        return finishChange(desk.letDaysPass(days));
    }

    private int finishChange(Fault fault) {
        refuse(fault);
        history.remember(before);
        return desk.answer;
    }

    private static void refuse(Fault fault) {
        if (fault == Fault.NO_ELEMENT) {
            throw new NoSuchElementException("no such loan");
        }
        if (fault == Fault.INDEX) {
            throw new IndexOutOfBoundsException("no such borrower or kind");
        }
        if (fault == Fault.ARGUMENT) {
            throw new IllegalArgumentException("an argument is out of range");
        }
        if (fault == Fault.STATE) {
            throw new IllegalStateException("the desk does not allow this now");
        }
    }

    // ---- the desk and its goods ----

    public int day() {
        return desk.today;
    }

    public int price(int kind) throws IndexOutOfBoundsException {
        requireKind(kind);
        return desk.prices[kind];
    }

    public int capital() {
        return desk.funds;
    }

    public int stock(int kind) throws IndexOutOfBoundsException {
        requireKind(kind);
        return desk.stored[kind];
    }

    // ---- borrowers ----

    public int borrowerCount() {
        return desk.borrowerTotal;
    }

    public int coins(int borrower) throws IndexOutOfBoundsException {
        return requireBorrower(borrower).purse;
    }

    public int units(int borrower, int kind) throws IndexOutOfBoundsException {
        Borrower owner = requireBorrower(borrower);
        requireKind(kind);
        return owner.goods[kind];
    }

    public int pledgedUnits(int borrower, int kind) throws IndexOutOfBoundsException {
        requireBorrower(borrower);
        requireKind(kind);
        return desk.pledgedBy(borrower, kind);
    }

    public int defaults(int borrower) throws IndexOutOfBoundsException {
        return requireBorrower(borrower).defaultTotal;
    }

    public boolean canBorrow(int borrower) throws IndexOutOfBoundsException {
        return requireBorrower(borrower).mayBorrow();
    }

    public int loansOf(int borrower) throws IndexOutOfBoundsException {
        requireBorrower(borrower);
        return desk.loansHeldBy(borrower);
    }

    public int debtOf(int borrower) throws IndexOutOfBoundsException {
        requireBorrower(borrower);
        return desk.owedBy(borrower);
    }

    public int wealth(int borrower) throws IndexOutOfBoundsException {
        Borrower owner = requireBorrower(borrower);
        int sum = owner.purse - desk.owedBy(borrower);
        for (int kind = 0; kind < KINDS; kind++) {
            sum += (owner.goods[kind] + desk.pledgedBy(borrower, kind)) * desk.prices[kind];
        }
        return sum;
    }

    // ---- loans ----

    public int loanCount() {
        return desk.loanTotal;
    }

    public boolean exists(int id) {
        return desk.loanWithId(id) != null;
    }

    public int idAt(int position) throws IndexOutOfBoundsException {
        if (position < 0 || position >= desk.loanTotal) {
            throw new IndexOutOfBoundsException("no loan has this position");
        }
        return desk.loans[position].number;
    }

    public int borrowerOf(int id) throws NoSuchElementException {
        return requireLoan(id).holder;
    }

    public int principal(int id) throws NoSuchElementException {
        return requireLoan(id).capitalLeft;
    }

    public int interest(int id) throws NoSuchElementException {
        return requireLoan(id).accrued;
    }

    public int debt(int id) throws NoSuchElementException {
        return requireLoan(id).owed();
    }

    public int rate(int id) throws NoSuchElementException {
        return requireLoan(id).perMille;
    }

    public int dueDay(int id) throws NoSuchElementException {
        return requireLoan(id).lastDay;
    }

    public int collateral(int id, int kind) throws NoSuchElementException, IndexOutOfBoundsException {
        Loan loan = requireLoan(id);
        requireKind(kind);
        return loan.pledged[kind];
    }

    public int collateralValue(int id) throws NoSuchElementException {
        return desk.valueOf(requireLoan(id).pledged);
    }

    public boolean isCovered(int id) throws NoSuchElementException {
        Loan loan = requireLoan(id);
        return covers(loan.owed(), desk.valueOf(loan.pledged));
    }

    public int missingUnits(int id, int kind) throws NoSuchElementException, IndexOutOfBoundsException {
        Loan loan = requireLoan(id);
        requireKind(kind);
        int shortfall = 3 * loan.owed() - 2 * desk.valueOf(loan.pledged);
        return shortfall <= 0 ? 0 : quotientUp(shortfall, 2 * desk.prices[kind]);
    }

    public int daysToDefault(int id) throws NoSuchElementException {
        return desk.daysLeft(requireLoan(id));
    }

    public int daysToDefaultByDays(int id) throws NoSuchElementException {
        requireLoan(id);
        return daysLeftByTrial(id);
    }

    private int daysLeftByTrial(int id) {
        trial.copyFrom(desk);
        int days = 0;
        // A loan never outlives the day after its due day.
        while (days <= MAX_DAYS && trial.loanWithId(id) != null) {
            trial.letOneDayPass();
            days++;
        }
        return days;
    }

    public int interestAfter(int id, int days) throws NoSuchElementException, IllegalArgumentException {
        Loan loan = requireLoan(id);
        if (!isWithin(days, 0, MAX_DAYS)) {
            throw new IllegalArgumentException("the number of days is out of range");
        }
        return loan.accrued + days * loan.dailyInterest();
    }

    public int greatestPrincipal(int borrower, int kind, int units)
            throws IndexOutOfBoundsException, IllegalArgumentException, NoSuchElementException {
        Borrower owner = requireBorrower(borrower);
        requireKind(kind);
        if (!isWithin(units, 1, MAX_UNITS_A_CALL)) {
            throw new IllegalArgumentException("the number of units is out of range");
        }
        int covered = 2 * units * desk.prices[kind] / 3;
        int greatest = Math.min(Math.min(covered, desk.funds), MAX_PRINCIPAL);
        if (greatest < 1 || !desk.mayPledgeForLoan(owner, kind, units)) {
            throw new NoSuchElementException("no principal can be lent");
        }
        return greatest;
    }

    public int riskiest() throws NoSuchElementException {
        Loan first = desk.firstToDefault();
        if (first == null) {
            throw new NoSuchElementException("there are no loans");
        }
        return first.number;
    }

    public int loanByDebt(int rank) throws NoSuchElementException {
        Loan ranked = desk.loanOfRank(rank);
        if (ranked == null) {
            throw new NoSuchElementException("no loan has this rank");
        }
        return ranked.number;
    }

    // ---- the ledger ----

    public int ledgerSize() {
        return desk.ledger.size;
    }

    public int ledgerAmount(int day, int id) throws NoSuchElementException {
        int position = desk.ledger.positionOf(day, id);
        if (position < 0) {
            throw new NoSuchElementException("the ledger has no such entry");
        }
        return desk.ledger.amounts[position];
    }

    public int ledgerDay(int position) throws NoSuchElementException {
        requireEntry(position);
        return desk.ledger.days[position];
    }

    public int ledgerLoan(int position) throws NoSuchElementException {
        requireEntry(position);
        return desk.ledger.ids[position];
    }

    public int ledgerOf(int id) {
        return desk.ledger.sumFor(id);
    }

    // ---- sums ----

    public int repaidLoans() {
        return desk.repaidTotal;
    }

    public int defaultedLoans() {
        return desk.defaultedTotal;
    }

    public int losses() {
        return desk.lossTotal;
    }

    public int totalCoins() {
        return desk.allCoins();
    }

    public int totalUnits(int kind) throws IndexOutOfBoundsException {
        requireKind(kind);
        return desk.allUnits(kind);
    }

    public double meanDebt() throws ArithmeticException {
        if (desk.loanTotal == 0) {
            throw new ArithmeticException("there are no loans");
        }
        return (double) desk.allDebts() / desk.loanTotal;
    }

    public float defaultShare() throws ArithmeticException {
        if (desk.nextId == 0) {
            throw new ArithmeticException("no loan has been granted");
        }
        return (float) desk.defaultedTotal / desk.nextId;
    }

    public boolean isBalanced() {
        if (desk.allCoins() != FIRST_CAPITAL + desk.broughtCoins) {
            return false;
        }
        for (int kind = 0; kind < KINDS; kind++) {
            if (desk.allUnits(kind) != desk.broughtUnits[kind]) {
                return false;
            }
        }
        for (int i = 0; i < desk.loanTotal; i++) {
            Loan loan = desk.loans[i];
            if (desk.daysLeft(loan) != daysLeftByTrial(loan.number)) {
                return false;
            }
        }
        return true;
    }

    // ---- the line ----

    public int formatLoan(int id) throws NoSuchElementException {
        Loan loan = requireLoan(id);
        line.setLength(0);
        line.append('L').append(loan.number).append(" b").append(loan.holder);
        line.append(' ').append(loan.capitalLeft).append('+').append(loan.accrued);
        line.append(" @").append(loan.perMille).append(" d").append(loan.lastDay);
        for (int kind = 0; kind < KINDS; kind++) {
            if (loan.pledged[kind] > 0) {
                line.append(' ').append(kind).append('x').append(loan.pledged[kind]);
            }
        }
        return line.length();
    }

    public char lineChar(int index) throws IndexOutOfBoundsException {
        if (index < 0 || index >= line.length()) {
            throw new IndexOutOfBoundsException("the line has no such index");
        }
        return line.charAt(index);
    }

    // ---- programs ----

    public int append(char character) throws IllegalArgumentException, IllegalStateException {
        if (character < ' ' || character > '~') {
            throw new IllegalArgumentException("the character is out of range");
        }
        if (bufferLength >= BUFFER_LIMIT) {
            throw new IllegalStateException("the input buffer is full");
        }
        buffer[bufferLength] = character;
        bufferLength++;
        return bufferLength;
    }

    public int run() throws IllegalArgumentException, IllegalStateException {
        int length = bufferLength;
        bufferLength = 0;
        int count = countCommands(length);
        if (count == NONE) {
            storedErrorPosition = reader.position;
            throw new IllegalArgumentException("the program is malformed");
        }
        before.copyFrom(desk);
        int failed = executeCommands(length, count);
        if (failed != NONE) {
            desk.copyFrom(before);
            storedFailedCommand = failed;
            throw new IllegalStateException("a command failed");
        }
        history.remember(before);
        return count;
    }

    /** Answers NONE for a malformed program; the reader then stands at the error position. */
    private int countCommands(int length) {
        reader.open(buffer, length);
        for (int count = 1; count <= BUFFER_LIMIT; count++) {
            if (!reader.readCommand()) {
                return NONE;
            }
            if (reader.isAtEnd()) {
                return count;
            }
        }
        return NONE;
    }

    /** Answers the index of the first command that fails, or NONE. */
    private int executeCommands(int length, int count) {
        reader.open(buffer, length);
        for (int i = 0; i < count; i++) {
            if (!reader.readCommand() || desk.obey(reader.verb, reader.arguments) != Fault.NO_FAULT) {
                return i;
            }
        }
        return NONE;
    }

    public int errorPosition() throws NoSuchElementException {
        if (storedErrorPosition == NONE) {
            throw new NoSuchElementException("no program was malformed");
        }
        return storedErrorPosition;
    }

    public int failedCommand() throws NoSuchElementException {
        if (storedFailedCommand == NONE) {
            throw new NoSuchElementException("no command failed");
        }
        return storedFailedCommand;
    }

    // ---- undo and the saved copy ----

    public int undoableCount() {
        return history.count;
    }

    public int undo() throws IllegalStateException {
        if (history.count == 0) {
            throw new IllegalStateException("no change can be undone");
        }
        history.takeBack(desk);
        return history.count;
    }

    public int save() {
        saved.copyFrom(desk);
        hasSaved = true;
        return desk.loanTotal;
    }

    public int restore() throws IllegalStateException {
        if (!hasSaved) {
            throw new IllegalStateException("there is no saved copy");
        }
        desk.copyFrom(saved);
        history.forgetAll();
        return desk.loanTotal;
    }

    // ---- tests of arguments ----

    private static void requireKind(int kind) {
        if (!isKind(kind)) {
            throw new IndexOutOfBoundsException("no such kind");
        }
    }

    private Borrower requireBorrower(int borrower) {
        Borrower found = desk.borrowerAt(borrower);
        if (found == null) {
            throw new IndexOutOfBoundsException("no such borrower");
        }
        return found;
    }

    private Loan requireLoan(int id) {
        Loan found = desk.loanWithId(id);
        if (found == null) {
            throw new NoSuchElementException("no loan has this id");
        }
        return found;
    }

    private void requireEntry(int position) {
        if (position < 0 || position >= desk.ledger.size) {
            throw new NoSuchElementException("the ledger has no such position");
        }
    }

    private static boolean isKind(int kind) {
        return kind >= 0 && kind < KINDS;
    }

    private static boolean isWithin(int value, int least, int most) {
        return value >= least && value <= most;
    }

    private static boolean covers(int owed, int value) {
        return 3 * owed <= 2 * value;
    }

    /** Divides a number of at least 0 and rounds up. */
    private static int quotientUp(int dividend, int divisor) {
        return divisor <= 0 ? 0 : (dividend + divisor - 1) / divisor;
    }

    // ---- the classes inside ----

    /** Why a change is refused. */
    private enum Fault {
        NO_FAULT, NO_ELEMENT, INDEX, ARGUMENT, STATE
    }

    /** The commands: the keyword with its space, and a letter for each argument, d for a digit and n for a number. */
    private enum Verb {
        BORROWER("borrower ", "n"),
        BRING("bring ", "ddn"),
        PRICE("price ", "dn"),
        LEND("lend ", "ddnnn"),
        PLEDGE("pledge ", "ndn"),
        RELEASE("release ", "ndn"),
        REPAY("repay ", "nn"),
        BUY("buy ", "ddn"),
        DAYS("days ", "n");

        final String keyword;
        final String shape;

        Verb(String keyword, String shape) {
            this.keyword = keyword;
            this.shape = shape;
        }
    }

    /** What a borrower has, without what is pledged. */
    private static final class Borrower {
        int purse = 0;
        int defaultTotal = 0;
        final int[] goods = new int[KINDS];

        void begin(int coins) {
            purse = coins;
            defaultTotal = 0;
            for (int kind = 0; kind < KINDS; kind++) {
                goods[kind] = 0;
            }
        }

        boolean mayBorrow() {
            return defaultTotal < DEFAULTS_THAT_BAR;
        }

        void copyFrom(Borrower other) {
            purse = other.purse;
            defaultTotal = other.defaultTotal;
            System.arraycopy(other.goods, 0, goods, 0, KINDS);
        }
    }

    /** A loan, or a free row for one. */
    private static final class Loan {
        int number = 0;
        int holder = 0;
        int capitalLeft = 0;
        int accrued = 0;
        int perMille = 0;
        int lastDay = 0;
        final int[] pledged = new int[KINDS];

        void begin(int id, int borrower, int principal, int rate, int dueDay) {
            number = id;
            holder = borrower;
            capitalLeft = principal;
            accrued = 0;
            perMille = rate;
            lastDay = dueDay;
            for (int kind = 0; kind < KINDS; kind++) {
                pledged[kind] = 0;
            }
        }

        int owed() {
            return capitalLeft + accrued;
        }

        int dailyInterest() {
            return quotientUp(capitalLeft * perMille, 1000);
        }

        void payOff(int coins) {
            int fromInterest = Math.min(accrued, coins);
            accrued -= fromInterest;
            capitalLeft -= coins - fromInterest;
        }

        boolean comesBefore(Loan other) {
            if (owed() != other.owed()) {
                return owed() > other.owed();
            }
            if (lastDay != other.lastDay) {
                return lastDay < other.lastDay;
            }
            return number < other.number;
        }

        void copyFrom(Loan other) {
            number = other.number;
            holder = other.holder;
            capitalLeft = other.capitalLeft;
            accrued = other.accrued;
            perMille = other.perMille;
            lastDay = other.lastDay;
            System.arraycopy(other.pledged, 0, pledged, 0, KINDS);
        }
    }

    /** The latest repayments, the oldest entry first. */
    private static final class Ledger {
        int size = 0;
        final int[] days = new int[LEDGER_LIMIT];
        final int[] ids = new int[LEDGER_LIMIT];
        final int[] amounts = new int[LEDGER_LIMIT];

        int positionOf(int day, int id) {
            for (int i = 0; i < size; i++) {
                if (days[i] == day && ids[i] == id) {
                    return i;
                }
            }
            return NONE;
        }

        void enter(int day, int id, int coins) {
            int position = positionOf(day, id);
            if (position >= 0) {
                amounts[position] += coins;
                return;
            }
            if (size >= LEDGER_LIMIT) {
                removeOldest();
            }
            days[size] = day;
            ids[size] = id;
            amounts[size] = coins;
            size++;
        }

        private void removeOldest() {
            size = LEDGER_LIMIT - 1;
            System.arraycopy(days, 1, days, 0, size);
            System.arraycopy(ids, 1, ids, 0, size);
            System.arraycopy(amounts, 1, amounts, 0, size);
        }

        int sumFor(int id) {
            int sum = 0;
            for (int i = 0; i < size; i++) {
                if (ids[i] == id) {
                    sum += amounts[i];
                }
            }
            return sum;
        }

        void copyFrom(Ledger other) {
            size = other.size;
            System.arraycopy(other.days, 0, days, 0, LEDGER_LIMIT);
            System.arraycopy(other.ids, 0, ids, 0, LEDGER_LIMIT);
            System.arraycopy(other.amounts, 0, amounts, 0, LEDGER_LIMIT);
        }
    }

    /** Everything that changes can change. A change that is refused changes nothing; one that is not sets answer. */
    private static final class Desk {
        int today = 0;
        int funds = FIRST_CAPITAL;
        int borrowerTotal = 0;
        int loanTotal = 0;
        int nextId = 0;
        int repaidTotal = 0;
        int defaultedTotal = 0;
        int lossTotal = 0;
        int broughtCoins = 0;
        int answer = 0;
        final int[] prices = new int[KINDS];
        final int[] stored = new int[KINDS];
        final int[] broughtUnits = new int[KINDS];
        final Borrower[] borrowers = new Borrower[MAX_BORROWERS];
        final Loan[] loans = new Loan[MAX_LOANS];
        final Ledger ledger = new Ledger();

        Desk() {
            for (int kind = 0; kind < KINDS; kind++) {
                prices[kind] = FIRST_PRICE;
            }
            for (int i = 0; i < MAX_BORROWERS; i++) {
                borrowers[i] = new Borrower();
            }
            for (int i = 0; i < MAX_LOANS; i++) {
                loans[i] = new Loan();
            }
        }

        void copyFrom(Desk other) {
            today = other.today;
            funds = other.funds;
            borrowerTotal = other.borrowerTotal;
            loanTotal = other.loanTotal;
            nextId = other.nextId;
            repaidTotal = other.repaidTotal;
            defaultedTotal = other.defaultedTotal;
            lossTotal = other.lossTotal;
            broughtCoins = other.broughtCoins;
            System.arraycopy(other.prices, 0, prices, 0, KINDS);
            System.arraycopy(other.stored, 0, stored, 0, KINDS);
            System.arraycopy(other.broughtUnits, 0, broughtUnits, 0, KINDS);
            for (int i = 0; i < borrowerTotal; i++) {
                borrowers[i].copyFrom(other.borrowers[i]);
            }
            for (int i = 0; i < loanTotal; i++) {
                loans[i].copyFrom(other.loans[i]);
            }
            ledger.copyFrom(other.ledger);
        }

        Borrower borrowerAt(int borrower) {
            return borrower < 0 || borrower >= borrowerTotal ? null : borrowers[borrower];
        }

        int positionOf(int id) {
            for (int i = 0; i < loanTotal; i++) {
                if (loans[i].number == id) {
                    return i;
                }
            }
            return NONE;
        }

        Loan loanWithId(int id) {
            int position = positionOf(id);
            return position < 0 ? null : loans[position];
        }

        int valueOf(int[] units) {
            int sum = 0;
            for (int kind = 0; kind < KINDS && kind < units.length; kind++) {
                sum += units[kind] * prices[kind];
            }
            return sum;
        }

        // -- changes --

        Fault obey(Verb verb, int[] a) {
            if (a.length < MAX_ARGUMENTS) {
                return Fault.STATE;
            }
            switch (verb) {
                case BORROWER:
                    return admitBorrower(a[0]);
                case BRING:
                    return bringUnits(a[0], a[1], a[2]);
                case PRICE:
                    return changePrice(a[0], a[1]);
                case LEND:
                    return grantLoan(a[0], a[1], a[2], a[3], a[4]);
                case PLEDGE:
                    return pledgeUnits(a[0], a[1], a[2]);
                case RELEASE:
                    return releaseUnits(a[0], a[1], a[2]);
                case REPAY:
                    return repayLoan(a[0], a[1]);
                case BUY:
                    return sellUnits(a[0], a[1], a[2]);
                default:
                    return letDaysPass(a[0]);
            }
        }

        Fault admitBorrower(int coins) {
            if (!isWithin(coins, 0, MAX_BROUGHT_COINS)) {
                return Fault.ARGUMENT;
            }
            if (borrowerTotal >= MAX_BORROWERS) {
                return Fault.STATE;
            }
            answer = borrowerTotal;
            borrowers[borrowerTotal].begin(coins);
            borrowerTotal++;
            broughtCoins += coins;
            return Fault.NO_FAULT;
        }

        Fault bringUnits(int borrower, int kind, int units) {
            Borrower owner = borrowerAt(borrower);
            if (owner == null || !isKind(kind)) {
                return Fault.INDEX;
            }
            if (!isWithin(units, 1, MAX_UNITS_A_CALL)) {
                return Fault.ARGUMENT;
            }
            if (owner.goods[kind] + units > MAX_UNITS) {
                return Fault.STATE;
            }
            owner.goods[kind] += units;
            broughtUnits[kind] += units;
            answer = owner.goods[kind];
            return Fault.NO_FAULT;
        }

        Fault changePrice(int kind, int price) {
            if (!isKind(kind)) {
                return Fault.INDEX;
            }
            if (!isWithin(price, 1, MAX_PRICE)) {
                return Fault.ARGUMENT;
            }
            answer = prices[kind];
            prices[kind] = price;
            return Fault.NO_FAULT;
        }

        Fault grantLoan(int borrower, int kind, int units, int principal, int term) {
            Borrower owner = borrowerAt(borrower);
            if (owner == null || !isKind(kind)) {
                return Fault.INDEX;
            }
            if (!isWithin(units, 1, MAX_UNITS_A_CALL) || !isWithin(principal, 1, MAX_PRINCIPAL)
                    || !isWithin(term, 1, MAX_DAYS)) {
                return Fault.ARGUMENT;
            }
            if (!mayPledgeForLoan(owner, kind, units) || funds < principal
                    || !covers(principal, units * prices[kind])) {
                return Fault.STATE;
            }
            Loan loan = loans[loanTotal];
            loan.begin(nextId, borrower, principal, 10 + 5 * loansHeldBy(borrower), today + term);
            loan.pledged[kind] = units;
            owner.goods[kind] -= units;
            owner.purse += principal;
            funds -= principal;
            loanTotal++;
            answer = nextId;
            nextId++;
            return Fault.NO_FAULT;
        }

        boolean mayPledgeForLoan(Borrower owner, int kind, int units) {
            return loanTotal < MAX_LOANS && owner.mayBorrow() && owner.goods[kind] >= units;
        }

        Fault pledgeUnits(int id, int kind, int units) {
            Loan loan = loanWithId(id);
            if (loan == null) {
                return Fault.NO_ELEMENT;
            }
            if (!isKind(kind)) {
                return Fault.INDEX;
            }
            if (!isWithin(units, 1, MAX_UNITS_A_CALL)) {
                return Fault.ARGUMENT;
            }
            Borrower owner = borrowerAt(loan.holder);
            if (owner == null || owner.goods[kind] < units) {
                return Fault.STATE;
            }
            owner.goods[kind] -= units;
            loan.pledged[kind] += units;
            answer = valueOf(loan.pledged);
            return Fault.NO_FAULT;
        }

        Fault releaseUnits(int id, int kind, int units) {
            Loan loan = loanWithId(id);
            if (loan == null) {
                return Fault.NO_ELEMENT;
            }
            if (!isKind(kind)) {
                return Fault.INDEX;
            }
            if (!isWithin(units, 1, MAX_UNITS_A_CALL)) {
                return Fault.ARGUMENT;
            }
            Borrower owner = borrowerAt(loan.holder);
            int valueAfter = valueOf(loan.pledged) - units * prices[kind];
            if (owner == null || loan.pledged[kind] < units || !covers(loan.owed(), valueAfter)) {
                return Fault.STATE;
            }
            loan.pledged[kind] -= units;
            owner.goods[kind] += units;
            answer = valueAfter;
            return Fault.NO_FAULT;
        }

        Fault repayLoan(int id, int coins) {
            int position = positionOf(id);
            if (position < 0) {
                return Fault.NO_ELEMENT;
            }
            if (!isWithin(coins, 1, MAX_REPAYMENT)) {
                return Fault.ARGUMENT;
            }
            Loan loan = loans[position];
            Borrower payer = borrowerAt(loan.holder);
            if (payer == null || coins > loan.owed() || coins > payer.purse) {
                return Fault.STATE;
            }
            payer.purse -= coins;
            funds += coins;
            loan.payOff(coins);
            ledger.enter(today, id, coins);
            answer = loan.owed();
            if (answer == 0) {
                returnCollateral(loan, payer);
                removeLoanAt(position);
                repaidTotal++;
            }
            return Fault.NO_FAULT;
        }

        private void returnCollateral(Loan loan, Borrower owner) {
            for (int kind = 0; kind < KINDS; kind++) {
                owner.goods[kind] += loan.pledged[kind];
                loan.pledged[kind] = 0;
            }
        }

        /** Keeps the row of the loan behind the others, for a later loan. */
        private void removeLoanAt(int position) {
            Loan removed = loans[position];
            for (int i = position; i + 1 < loanTotal; i++) {
                loans[i] = loans[i + 1];
            }
            loanTotal--;
            loans[loanTotal] = removed;
        }

        Fault sellUnits(int borrower, int kind, int units) {
            Borrower buyer = borrowerAt(borrower);
            if (buyer == null || !isKind(kind)) {
                return Fault.INDEX;
            }
            if (!isWithin(units, 1, MAX_UNITS_A_CALL)) {
                return Fault.ARGUMENT;
            }
            int cost = units * prices[kind];
            if (stored[kind] < units || buyer.purse < cost || buyer.goods[kind] + units > MAX_UNITS) {
                return Fault.STATE;
            }
            stored[kind] -= units;
            buyer.goods[kind] += units;
            buyer.purse -= cost;
            funds += cost;
            answer = cost;
            return Fault.NO_FAULT;
        }

        Fault letDaysPass(int days) {
            if (!isWithin(days, 1, MAX_DAYS)) {
                return Fault.ARGUMENT;
            }
            int defaultedBefore = defaultedTotal;
            for (int i = 0; i < days; i++) {
                letOneDayPass();
            }
            answer = defaultedTotal - defaultedBefore;
            return Fault.NO_FAULT;
        }

        void letOneDayPass() {
            today++;
            for (int i = 0; i < loanTotal; i++) {
                loans[i].accrued += loans[i].dailyInterest();
            }
            int position = 0;
            for (int unchecked = loanTotal; unchecked > 0; unchecked--) {
                if (isInDefault(loans[position])) {
                    seizeCollateral(loans[position]);
                    removeLoanAt(position);
                } else {
                    position++;
                }
            }
        }

        private boolean isInDefault(Loan loan) {
            return today > loan.lastDay || loan.owed() > valueOf(loan.pledged);
        }

        private void seizeCollateral(Loan loan) {
            int open = loan.owed();
            for (int kind = 0; kind < KINDS; kind++) {
                int needed = open <= 0 ? 0 : quotientUp(open, prices[kind]);
                int taken = Math.min(needed, loan.pledged[kind]);
                loan.pledged[kind] -= taken;
                stored[kind] += taken;
                open -= taken * prices[kind];
            }
            lossTotal += Math.max(open, 0);
            defaultedTotal++;
            Borrower owner = borrowerAt(loan.holder);
            if (owner != null) {
                owner.defaultTotal++;
                returnCollateral(loan, owner);
            }
        }

        // -- sums and orders --

        int loansHeldBy(int borrower) {
            int count = 0;
            for (int i = 0; i < loanTotal; i++) {
                if (loans[i].holder == borrower) {
                    count++;
                }
            }
            return count;
        }

        int owedBy(int borrower) {
            int sum = 0;
            for (int i = 0; i < loanTotal; i++) {
                if (loans[i].holder == borrower) {
                    sum += loans[i].owed();
                }
            }
            return sum;
        }

        int pledgedBy(int borrower, int kind) {
            int sum = 0;
            for (int i = 0; i < loanTotal; i++) {
                if (loans[i].holder == borrower) {
                    sum += loans[i].pledged[kind];
                }
            }
            return sum;
        }

        int allDebts() {
            int sum = 0;
            for (int i = 0; i < loanTotal; i++) {
                sum += loans[i].owed();
            }
            return sum;
        }

        int allCoins() {
            int sum = funds;
            for (int i = 0; i < borrowerTotal; i++) {
                sum += borrowers[i].purse;
            }
            return sum;
        }

        int allUnits(int kind) {
            int sum = stored[kind];
            for (int i = 0; i < borrowerTotal; i++) {
                sum += borrowers[i].goods[kind];
            }
            for (int i = 0; i < loanTotal; i++) {
                sum += loans[i].pledged[kind];
            }
            return sum;
        }

        int daysLeft(Loan loan) {
            int byTerm = loan.lastDay - today + 1;
            int reserve = valueOf(loan.pledged) - loan.owed();
            int daily = loan.dailyInterest();
            if (reserve < 0) {
                return 1;
            }
            return daily <= 0 ? byTerm : Math.min(byTerm, reserve / daily + 1);
        }

        Loan firstToDefault() {
            Loan first = null;
            for (int i = 0; i < loanTotal; i++) {
                if (first == null || daysLeft(loans[i]) < daysLeft(first)) {
                    first = loans[i];
                }
            }
            return first;
        }

        Loan loanOfRank(int rank) {
            for (int i = 0; i < loanTotal; i++) {
                if (loansBefore(loans[i]) == rank) {
                    return loans[i];
                }
            }
            return null;
        }

        private int loansBefore(Loan loan) {
            int count = 0;
            for (int i = 0; i < loanTotal; i++) {
                if (loans[i].comesBefore(loan)) {
                    count++;
                }
            }
            return count;
        }
    }

    /** The states before the latest changes, in a ring. */
    private static final class History {
        int count = 0;
        private int next = 0;
        private final Desk[] copies = new Desk[HISTORY_LIMIT];

        History() {
            for (int i = 0; i < HISTORY_LIMIT; i++) {
                copies[i] = new Desk();
            }
        }

        void remember(Desk state) {
            copies[next].copyFrom(state);
            next = next + 1 < HISTORY_LIMIT ? next + 1 : 0;
            count = Math.min(count + 1, HISTORY_LIMIT);
        }

        void takeBack(Desk state) {
            if (count > 0) {
                next = next > 0 ? next - 1 : HISTORY_LIMIT - 1;
                state.copyFrom(copies[next]);
                count--;
            }
        }

        void forgetAll() {
            count = 0;
        }
    }

    /** Reads the commands of a program one by one. After a failure, position is the error position. */
    private static final class CommandReader {
        int position = 0;
        Verb verb = Verb.BORROWER;
        final int[] arguments = new int[MAX_ARGUMENTS];
        private final char[] text = new char[BUFFER_LIMIT];
        private int length = 0;

        void open(char[] source, int sourceLength) {
            length = Math.max(0, Math.min(sourceLength, Math.min(source.length, BUFFER_LIMIT)));
            System.arraycopy(source, 0, text, 0, length);
            position = 0;
        }

        boolean isAtEnd() {
            return position >= length;
        }

        /** Reads the semicolon before the command too, but for the first command. */
        boolean readCommand() {
            if (position > 0 && !readSign(';')) {
                return false;
            }
            return readVerb() && readArguments();
        }

        private boolean readSign(char sign) {
            if (isAtEnd() || text[position] != sign) {
                return false;
            }
            position++;
            return true;
        }

        private boolean readVerb() {
            int furthest = 0;
            for (int i = 0; i < VERBS.length; i++) {
                int matched = matchedLength(VERBS[i].keyword);
                furthest = Math.max(furthest, matched);
                if (matched == VERBS[i].keyword.length()) {
                    verb = VERBS[i];
                    position += matched;
                    return true;
                }
            }
            position += furthest;
            return false;
        }

        private int matchedLength(String keyword) {
            int matched = 0;
            while (matched < keyword.length() && position + matched < length
                    && text[position + matched] == keyword.charAt(matched)) {
                matched++;
            }
            return matched;
        }

        private boolean readArguments() {
            String shape = verb.shape;
            for (int i = 0; i < shape.length() && i < MAX_ARGUMENTS; i++) {
                if (i > 0 && !readSign(' ')) {
                    return false;
                }
                int start = position;
                arguments[i] = readNumber(shape.charAt(i) == 'd' ? 1 : 3);
                if (position == start) {
                    return false;
                }
            }
            return true;
        }

        /** Reads as many digits as there are, up to a limit. */
        private int readNumber(int mostDigits) {
            int value = 0;
            for (int i = 0; i < mostDigits && !isAtEnd() && isDigit(text[position]); i++) {
                value = 10 * value + (text[position] - '0');
                position++;
            }
            return value;
        }

        private static boolean isDigit(char character) {
            return character >= '0' && character <= '9';
        }
    }
}
