import java.util.ArrayList;
import java.util.Comparator;
import java.util.List;
import java.util.NoSuchElementException;

/** The document written down once more in the most literal way, to compare the class with. Days pass unit by unit. */
final class PlainDesk {
    static final class Person {
        int coins;
        int defaults;
        int[] units = new int[4];
    }

    static final class Debt {
        int id;
        int borrower;
        int principal;
        int interest;
        int rate;
        int due;
        int[] collateral = new int[4];

        int sum() {
            return principal + interest;
        }
    }

    static final class State {
        int day = 0;
        int capital = 1000;
        int nextId = 0;
        int repaid = 0;
        int defaulted = 0;
        int losses = 0;
        int[] prices = {10, 10, 10, 10};
        int[] stock = new int[4];
        List<Person> people = new ArrayList<>();
        List<Debt> loans = new ArrayList<>();
        List<int[]> ledger = new ArrayList<>();

        State copy() {
            State c = new State();
            c.day = day;
            c.capital = capital;
            c.nextId = nextId;
            c.repaid = repaid;
            c.defaulted = defaulted;
            c.losses = losses;
            c.prices = prices.clone();
            c.stock = stock.clone();
            for (Person p : people) {
                Person q = new Person();
                q.coins = p.coins;
                q.defaults = p.defaults;
                q.units = p.units.clone();
                c.people.add(q);
            }
            for (Debt d : loans) {
                Debt e = new Debt();
                e.id = d.id;
                e.borrower = d.borrower;
                e.principal = d.principal;
                e.interest = d.interest;
                e.rate = d.rate;
                e.due = d.due;
                e.collateral = d.collateral.clone();
                c.loans.add(e);
            }
            for (int[] entry : ledger) {
                c.ledger.add(entry.clone());
            }
            return c;
        }
    }

    State s = new State();
    State saved = null;
    List<State> past = new ArrayList<>();
    String buffer = "";
    int errorPosition = -1;
    int failedCommand = -1;
    String line = "";
    private static final List<String> FORMS = forms();

    // Every command as a row of signs, where # stands for a digit.
    private static List<String> forms() {
        String[] shapes = {"borrower N", "bring # # N", "price # N", "lend # # N N N", "pledge N # N",
            "release N # N", "repay N N", "buy # # N", "days N"};
        List<String> open = new ArrayList<>(List.of(shapes));
        List<String> ready = new ArrayList<>();
        while (!open.isEmpty()) {
            String f = open.remove(0);
            if (f.indexOf('N') < 0) {
                ready.add(f);
            } else {
                open.add(f.replaceFirst("N", "#"));
                open.add(f.replaceFirst("N", "##"));
                open.add(f.replaceFirst("N", "###"));
            }
        }
        return ready;
    }

    private static boolean starts(String form, String text) {
        if (text.length() > form.length()) {
            return false;
        }
        for (int i = 0; i < text.length(); i++) {
            char f = form.charAt(i);
            char t = text.charAt(i);
            if (f == '#' ? t < '0' || t > '9' : f != t) {
                return false;
            }
        }
        return true;
    }

    private static boolean isCommand(String text) {
        return FORMS.stream().anyMatch(f -> f.length() == text.length() && starts(f, text));
    }

    private static boolean isPrefixOfProgram(String text) {
        String[] parts = text.split(";", -1);
        for (int i = 0; i + 1 < parts.length; i++) {
            if (!isCommand(parts[i])) {
                return false;
            }
        }
        return FORMS.stream().anyMatch(f -> starts(f, parts[parts.length - 1]));
    }

    private static boolean isProgram(String text) {
        for (String part : text.split(";", -1)) {
            if (!isCommand(part)) {
                return false;
            }
        }
        return true;
    }

    static int errorIn(String text) {
        if (isProgram(text)) {
            return -1;
        }
        int i = 0;
        while (i < text.length() && isPrefixOfProgram(text.substring(0, i + 1))) {
            i++;
        }
        return i;
    }

    // ---- looking things up ----

    Debt loan(int id) {
        for (Debt d : s.loans) {
            if (d.id == id) {
                return d;
            }
        }
        throw new NoSuchElementException();
    }

    void kind(int kind) {
        if (kind < 0 || kind > 3) {
            throw new IndexOutOfBoundsException();
        }
    }

    Person person(int b) {
        if (b < 0 || b >= s.people.size()) {
            throw new IndexOutOfBoundsException();
        }
        return s.people.get(b);
    }

    static void range(int v, int lo, int hi) {
        if (v < lo || v > hi) {
            throw new IllegalArgumentException();
        }
    }

    static void allow(boolean allowed) {
        if (!allowed) {
            throw new IllegalStateException();
        }
    }

    int value(Debt d) {
        int v = 0;
        for (int k = 0; k < 4; k++) {
            v += d.collateral[k] * s.prices[k];
        }
        return v;
    }

    // ---- the changes themselves ----

    int change(String name, int... a) {
        State earlier = s.copy();
        int answer;
        try {
            answer = doIt(name, a);
        } catch (RuntimeException e) {
            s = earlier;
            throw e;
        }
        changed(earlier);
        return answer;
    }

    private void changed(State earlier) {
        past.add(earlier);
        if (past.size() > 8) {
            past.remove(0);
        }
    }

    private int doIt(String name, int[] a) {
        switch (name) {
            case "borrower": return addBorrower(a[0]);
            case "bring": return bring(a[0], a[1], a[2]);
            case "price": return setPrice(a[0], a[1]);
            case "lend": return lend(a[0], a[1], a[2], a[3], a[4]);
            case "pledge": return pledge(a[0], a[1], a[2]);
            case "release": return release(a[0], a[1], a[2]);
            case "repay": return repay(a[0], a[1]);
            case "buy": return buy(a[0], a[1], a[2]);
            default: return days(a[0]);
        }
    }

    private int addBorrower(int coins) {
        range(coins, 0, 500);
        allow(s.people.size() < 6);
        Person p = new Person();
        p.coins = coins;
        s.people.add(p);
        return s.people.size() - 1;
    }

    private int bring(int b, int k, int n) {
        Person p = person(b);
        kind(k);
        range(n, 1, 99);
        allow(p.units[k] + n <= 999);
        return p.units[k] += n;
    }

    private int setPrice(int k, int price) {
        kind(k);
        range(price, 1, 99);
        int old = s.prices[k];
        s.prices[k] = price;
        return old;
    }

    private int lend(int b, int k, int n, int principal, int term) {
        Person p = person(b);
        kind(k);
        range(n, 1, 99);
        range(principal, 1, 500);
        range(term, 1, 60);
        allow(s.loans.size() < 10);
        allow(p.defaults < 2);
        allow(p.units[k] >= n);
        allow(s.capital >= principal);
        Debt d = new Debt();
        d.id = s.nextId++;
        d.borrower = b;
        d.principal = principal;
        d.rate = 10 + 5 * (int) s.loans.stream().filter(o -> o.borrower == b).count();
        d.due = s.day + term;
        d.collateral[k] = n;
        allow(3 * d.sum() <= 2 * value(d));
        p.units[k] -= n;
        p.coins += principal;
        s.capital -= principal;
        s.loans.add(d);
        return d.id;
    }

    private int pledge(int id, int k, int n) {
        Debt d = loan(id);
        kind(k);
        range(n, 1, 99);
        Person p = person(d.borrower);
        allow(p.units[k] >= n);
        p.units[k] -= n;
        d.collateral[k] += n;
        return value(d);
    }

    private int release(int id, int k, int n) {
        Debt d = loan(id);
        kind(k);
        range(n, 1, 99);
        allow(d.collateral[k] >= n);
        d.collateral[k] -= n;
        allow(3 * d.sum() <= 2 * value(d));
        person(d.borrower).units[k] += n;
        return value(d);
    }

    private int repay(int id, int coins) {
        Debt d = loan(id);
        range(coins, 1, 999);
        Person p = person(d.borrower);
        allow(coins <= d.sum());
        allow(coins <= p.coins);
        for (int i = 0; i < coins; i++) {
            p.coins--;
            s.capital++;
            if (d.interest > 0) {
                d.interest--;
            } else {
                d.principal--;
            }
        }
        enter(id, coins);
        if (d.sum() == 0) {
            for (int k = 0; k < 4; k++) {
                p.units[k] += d.collateral[k];
            }
            s.loans.remove(d);
            s.repaid++;
        }
        return d.sum();
    }

    private void enter(int id, int coins) {
        for (int[] entry : s.ledger) {
            if (entry[0] == s.day && entry[1] == id) {
                entry[2] += coins;
                return;
            }
        }
        s.ledger.add(new int[] {s.day, id, coins});
        if (s.ledger.size() > 20) {
            s.ledger.remove(0);
        }
    }

    private int buy(int b, int k, int n) {
        Person p = person(b);
        kind(k);
        range(n, 1, 99);
        int cost = n * s.prices[k];
        allow(s.stock[k] >= n);
        allow(p.coins >= cost);
        allow(p.units[k] + n <= 999);
        s.stock[k] -= n;
        p.units[k] += n;
        p.coins -= cost;
        s.capital += cost;
        return cost;
    }

    private int days(int days) {
        range(days, 1, 60);
        int count = 0;
        for (int i = 0; i < days; i++) {
            count += oneDay();
        }
        return count;
    }

    private int oneDay() {
        s.day++;
        for (Debt d : s.loans) {
            int product = d.principal * d.rate;
            d.interest += product / 1000 + (product % 1000 == 0 ? 0 : 1);
        }
        int count = 0;
        for (Debt d : new ArrayList<>(s.loans)) {
            if (s.day > d.due || d.sum() > value(d)) {
                seize(d);
                count++;
            }
        }
        return count;
    }

    private void seize(Debt d) {
        Person p = person(d.borrower);
        int worth = 0;
        for (int k = 0; k < 4; k++) {
            while (worth < d.sum() && d.collateral[k] > 0) {
                d.collateral[k]--;
                s.stock[k]++;
                worth += s.prices[k];
            }
            p.units[k] += d.collateral[k];
        }
        s.losses += Math.max(0, d.sum() - worth);
        p.defaults++;
        s.defaulted++;
        s.loans.remove(d);
    }

    // ---- programs, undo, copies ----

    int append(char c) {
        if (c < 32 || c > 126) {
            throw new IllegalArgumentException();
        }
        allow(buffer.length() < 60);
        buffer += c;
        return buffer.length();
    }

    int run() {
        String program = buffer;
        buffer = "";
        int error = errorIn(program);
        if (error >= 0) {
            errorPosition = error;
            throw new IllegalArgumentException();
        }
        State earlier = s.copy();
        String[] commands = program.split(";");
        for (int i = 0; i < commands.length; i++) {
            String[] words = commands[i].split(" ");
            int[] a = new int[words.length - 1];
            for (int j = 0; j < a.length; j++) {
                a[j] = Integer.parseInt(words[j + 1]);
            }
            try {
                doIt(words[0], a);
            } catch (RuntimeException e) {
                s = earlier;
                failedCommand = i;
                throw new IllegalStateException();
            }
        }
        changed(earlier);
        return commands.length;
    }

    int undo() {
        allow(!past.isEmpty());
        s = past.remove(past.size() - 1);
        return past.size();
    }

    int save() {
        saved = s.copy();
        return s.loans.size();
    }

    int restore() {
        allow(saved != null);
        s = saved.copy();
        past.clear();
        return s.loans.size();
    }

    // ---- questions that are more than a look ----

    int missing(int id, int k) {
        Debt d = loan(id);
        kind(k);
        int n = 0;
        while (3 * d.sum() > 2 * (value(d) + n * s.prices[k])) {
            n++;
        }
        return n;
    }

    int daysToDefault(int id) {
        loan(id);
        State earlier = s;
        s = s.copy();
        int n = 0;
        while (s.loans.stream().anyMatch(d -> d.id == id)) {
            oneDay();
            n++;
        }
        s = earlier;
        return n;
    }

    int interestAfter(int id, int days) {
        Debt d = loan(id);
        range(days, 0, 60);
        int sum = d.interest;
        for (int i = 0; i < days; i++) {
            sum += (d.principal * d.rate + 999) / 1000;
        }
        return sum;
    }

    int greatest(int b, int k, int n) {
        person(b);
        kind(k);
        range(n, 1, 99);
        for (int p = 500; p >= 1; p--) {
            State earlier = s.copy();
            try {
                lend(b, k, n, p, 1);
                s = earlier;
                return p;
            } catch (IllegalStateException e) {
                s = earlier;
            }
        }
        throw new NoSuchElementException();
    }

    int riskiest() {
        int best = -1;
        for (Debt d : s.loans) {
            if (best < 0 || daysToDefault(d.id) < daysToDefault(best)) {
                best = d.id;
            }
        }
        if (best < 0) {
            throw new NoSuchElementException();
        }
        return best;
    }

    int byDebt(int rank) {
        List<Debt> sorted = new ArrayList<>(s.loans);
        sorted.sort(Comparator.comparingInt((Debt d) -> -d.sum()).thenComparingInt(d -> d.due)
                .thenComparingInt(d -> d.id));
        if (rank < 0 || rank >= sorted.size()) {
            throw new NoSuchElementException();
        }
        return sorted.get(rank).id;
    }

    int format(int id) {
        Debt d = loan(id);
        line = "L" + id + " b" + d.borrower + " " + d.principal + "+" + d.interest + " @" + d.rate + " d" + d.due;
        for (int k = 0; k < 4; k++) {
            line += d.collateral[k] == 0 ? "" : " " + k + "x" + d.collateral[k];
        }
        return line.length();
    }
}
