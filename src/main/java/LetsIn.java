/**
 * A queue in which each must let in before himself whoever he owes. What it promises, by numbers, stands in the
 * document DOC.md; words in capitals here are the document's. Every row is made with the object and used again, so that
 * no call makes anything new.
 */
public final class LetsIn {
    public static final int BAD = -1, STATE = -2, FULL = -3, NONE = -4;

    private static final int MOST = 7;
    private static final int MOST_BYTES = 400;
    private static final int MOST_CELLS = 40;
    private static final int MOST_READ = 13;
    private static final int IMAGES = 2;
    private static final int SHEETS = 4;
    private static final int LANES = 3;
    private static final int LAST_COMES = 60;
    private static final int LAST_MINUTE = 130;
    private static final int MOST_TOLD_COINS = 50;
    private static final int MOST_LENT = 50;
    private static final int MOST_POOR = 99;
    private static final int MOST_TOLD_DEBT = 99;
    private static final int MOST_DEBT = 999;
    private static final int PLAIN = 0, PAYER = 1, PROUD = 2, RICH = 3, SON = 4;
    private static final int FIRST_PLACE = 10;
    private static final int FAULT_BASE = -10;
    private static final int DEBT_BASE = -20;

    private final Reader reader = new Reader();
    private final Tape tape = reader.tape;
    private final Town town = new Town();
    private final Town[] images = new Town[IMAGES];
    private final boolean[] kept = new boolean[IMAGES];
    private final Run run = new Run();
    private final Advice advice = new Advice();
    private final Orders orders = new Orders();
    private final Row theRow = new Row();
    private final Row seen = new Row();
    private final Sheet[] sheets = new Sheet[SHEETS];
    private int torn;

    public LetsIn() {
        for (int k = 0; k < IMAGES; k++) {
            images[k] = new Town();
        }
        for (int k = 0; k < SHEETS; k++) {
            sheets[k] = new Sheet();
        }
    }

    // ---- the text, what there is

    public int feed(long v) {
        return tape.append(v) ? tape.length : FULL;
    }

    public int end(int n) {
        if (n < 0 || n > tape.length) {
            return BAD;
        }
        int had = tape.length;
        tape.length = n;
        return had;
    }

    public int town() {
        int answer = reader.readTown();
        tape.length = 0;
        if (reader.fault == 0) {
            town.copyOf(reader.draft);
            seen.length = 0;
            for (int k = 0; k < IMAGES; k++) {
                kept[k] = false;
            }
        }
        return answer;
    }

    public int fault() {
        return reader.fault;
    }

    public int rule(int what) {
        switch (what) {
            case 0: return town.people;
            case 1: return town.law;
            case 2: return town.counters;
            default: return BAD;
        }
    }

    public int one(int p, int what) {
        if (!town.isOne(p)) {
            return BAD;
        }
        switch (what) {
            case 0: return town.kind[p];
            case 1: return town.comes[p];
            case 2: return town.wants[p];
            case 3: return town.cost[p];
            case 4: return town.coins[p];
            case 5: return town.kind[p] == SON ? town.father[p] : NONE;
            default: return BAD;
        }
    }

    public int owes(int a, int b) {
        return town.areTwo(a, b) ? town.owed(a, b) : BAD;
    }

    public int must(int a, int b) {
        if (!town.areTwo(a, b)) {
            return BAD;
        }
        return town.mustLet(a, b) ? 1 : 0;
    }

    // ---- what is changed

    public int law(int v) {
        if (!isLaw(v)) {
            return BAD;
        }
        int was = town.law;
        town.law = v;
        return was;
    }

    public int counters(int v) {
        if (v < 1 || v > 2) {
            return BAD;
        }
        int were = town.counters;
        town.counters = v;
        return were;
    }

    public int comes(int p, int t) {
        if (!town.isOne(p) || t < 0 || t > LAST_COMES) {
            return BAD;
        }
        int was = town.comes[p];
        town.comes[p] = t;
        return was;
    }

    public int debt(int a, int b, int v) {
        if (!town.canBeDebt(a, b, v)) {
            return BAD;
        }
        int was = town.owed(a, b);
        town.setDebt(a, b, v);
        return was;
    }

    public int pay(int a, int b) {
        if (!town.areTwo(a, b)) {
            return BAD;
        }
        int owed = town.owed(a, b);
        if (town.coins[a] < owed) {
            return STATE;
        }
        return owed == 0 ? NONE : town.payOff(a, b);
    }

    public int lend(int a, int b, int v) {
        if (!town.areTwo(a, b) || v < 1 || v > MOST_LENT) {
            return BAD;
        }
        if (town.coins[a] < v) {
            return STATE;
        }
        if (town.owed(b, a) + v > MOST_DEBT) {
            return FULL;
        }
        town.lendCoins(a, b, v);
        return town.owed(b, a);
    }

    public int sell(int a, int b, int c) {
        if (!town.areTwo(a, b) || !town.isOne(c) || b == c) {
            return BAD;
        }
        int owed = town.owed(a, b);
        if (owed == 0) {
            return NONE;
        }
        int then = c == a ? 0 : town.owed(a, c) + owed;
        if (then > MOST_DEBT) {
            return FULL;
        }
        town.setDebt(a, b, 0);
        town.setDebt(a, c, then);
        return then;
    }

    // ---- the run

    public int served(int p) {
        if (!town.isOne(p)) {
            return BAD;
        }
        runUntil(LAST_MINUTE);
        return run.served[p];
    }

    public int waits(int p) {
        if (!town.isOne(p)) {
            return BAD;
        }
        runUntil(LAST_MINUTE);
        return run.waitOf(p);
    }

    public int place(int p, int t) {
        if (!town.isOne(p) || !isMinute(t)) {
            return BAD;
        }
        runUntil(t);
        return run.waiting.placeOf(p);
    }

    public int row(int t, int i) {
        if (!isMinute(t) || i < 0 || i >= MOST) {
            return BAD;
        }
        runUntil(t);
        return run.waiting.oneAt(i);
    }

    public int all(int what) {
        if (!isSum(what)) {
            return BAD;
        }
        runUntil(LAST_MINUTE);
        return run.sum(what);
    }

    public int poor(int v, int law) {
        if (v < 0 || v > MOST_POOR || !isLaw(law)) {
            return BAD;
        }
        run.load(town);
        run.town.law = law;
        run.go(LAST_MINUTE);
        int sum = 0;
        for (int p = 0; p < town.people; p++) {
            // By the town's own COINS: those of the run change as payers pay.
            if (town.coins[p] <= v) {
                sum += run.waitOf(p);
            }
        }
        return sum;
    }

    // ---- the row, orders

    public int stands(int i) {
        if (!isPlace(i)) {
            return BAD;
        }
        theRow.fillAsTheyCome(town, everybody());
        return theRow.oneAt(i);
    }

    public int order(int what) {
        if (what != 0 && !isPlace(what - FIRST_PLACE)) {
            return BAD;
        }
        orders.ask(town);
        if (what == 0) {
            return orders.number();
        }
        return orders.findFirst() ? orders.found.oneAt(what - FIRST_PLACE) : NONE;
    }

    public int rings() {
        orders.ask(town);
        return orders.ringed();
    }

    public int shop(int what) {
        if (what != 0 && !isPlace(what - FIRST_PLACE)) {
            return BAD;
        }
        orders.ask(town);
        if (!orders.findBest(town)) {
            return NONE;
        }
        return what == 0 ? orders.leastCost() : orders.found.oneAt(what - FIRST_PLACE);
    }

    // ---- what to do

    public int clear(int p, int t, int what) {
        if (!town.isOne(p) || !isMinute(t) || what < 0 || what > 1) {
            return BAD;
        }
        advice.seekPayOff(run, town, p, t);
        if (!advice.found) {
            return NONE;
        }
        return what == 0 ? advice.coins : advice.whom;
    }

    public int door(int p, int what) {
        if (!town.isOne(p) || what < 0 || what > 2) {
            return BAD;
        }
        advice.seekLoan(run, town, p);
        return advice.answer(what);
    }

    public int buy(int p, int what) {
        if (!town.isOne(p) || what < 0 || what > 2) {
            return BAD;
        }
        advice.seekDebt(run, town, p);
        return advice.answer(what);
    }

    // ---- what a row tells

    public int see(int p) {
        if (!town.isOne(p)) {
            return BAD;
        }
        if (seen.placeOf(p) >= 0) {
            return STATE;
        }
        seen.add(p);
        return seen.length;
    }

    public int forget() {
        int were = seen.length;
        seen.length = 0;
        return were;
    }

    public int told(int a, int b) {
        if (!town.areTwo(a, b)) {
            return BAD;
        }
        int placeOfA = seen.placeOf(a);
        int placeOfB = seen.placeOf(b);
        if (placeOfA < 0 || placeOfB < 0 || !town.comesAhead(a, b)) {
            return NONE;
        }
        if (placeOfB < placeOfA) {
            return 1;
        }
        // Those who came later may stand between b and the one behind whom he stopped.
        int i = placeOfB - 1;
        while (i > placeOfA && !town.comesAhead(seen.oneAt(i), b)) {
            i--;
        }
        return i == placeOfA ? 0 : NONE;
    }

    public int judge() {
        theRow.fillAsTheyCome(town, seen.bits());
        for (int i = 0; i < seen.length; i++) {
            if (seen.oneAt(i) != theRow.oneAt(i)) {
                return i;
            }
        }
        return NONE;
    }

    // ---- days

    public int day(int seed, int what) {
        if (!isSum(what)) {
            return BAD;
        }
        run.load(town);
        int drawn = seed;
        for (int p = 0; p < town.people; p++) {
            drawn = drawn * 1103515245 + 12345;
            run.town.comes[p] = (drawn >>> 16 & 0x7fff) % (LAST_COMES + 1);
        }
        run.go(LAST_MINUTE);
        return run.sum(what);
    }

    // ---- images, sheets

    public int keep(int k) {
        if (k < 0 || k >= IMAGES) {
            return BAD;
        }
        int was = kept[k] ? 1 : 0;
        images[k].copyOf(town);
        kept[k] = true;
        return was;
    }

    public int back(int k) {
        if (k < 0 || k >= IMAGES) {
            return BAD;
        }
        if (!kept[k]) {
            return STATE;
        }
        town.copyOf(images[k]);
        return town.people;
    }

    public int sheet(int k, int lane, int n) {
        if (!isSheet(k) || !isLane(lane) || n > MOST_CELLS) {
            return BAD;
        }
        if (n < 0) {
            return FAULT_BASE - Sheet.SIZE;
        }
        sheets[k].renew(lane, n);
        return 1;
    }

    public int lay(int k, int i, int v) {
        if (!isSheet(k)) {
            return BAD;
        }
        int found = sheets[k].faultOfCells(i, 1);
        if (found != 0) {
            return FAULT_BASE - found;
        }
        sheets[k].put(i, v);
        return 1;
    }

    public int read(int k, int lane, int f, int n) {
        if (!isSheet(k) || !isLane(lane) || n < 0 || n > MOST_READ) {
            return BAD;
        }
        Sheet sheet = sheets[k];
        int found = 0;
        int whole = 0;
        while (found == 0 && whole < n) {
            int at = f + 3 * whole;
            found = sheet.faultAsOf(lane, at, 3);
            if (found == 0) {
                if (!town.canBeDebt(sheet.cells[at], sheet.cells[at + 1], sheet.cells[at + 2])) {
                    return DEBT_BASE - whole;
                }
                whole++;
            }
        }
        for (int i = 0; i < whole; i++) {
            int at = f + 3 * i;
            town.setDebt(sheet.cells[at], sheet.cells[at + 1], sheet.cells[at + 2]);
        }
        torn = found;
        return whole;
    }

    public int torn() {
        return torn;
    }

    public int count(int what) {
        switch (what) {
            case 0: return town.debtsAboveNothing();
            case 1: return town.debtsSummed();
            case 2: return seen.length;
            case 3: return (kept[0] ? 1 : 0) + (kept[1] ? 1 : 0);
            case 4: return tape.length;
            case 5: return sheets[0].isThere() ? sheets[0].size : NONE;
            default: return BAD;
        }
    }

    private void runUntil(int minute) {
        run.load(town);
        run.go(minute);
    }

    private int everybody() {
        return (1 << town.people) - 1;
    }

    private boolean isPlace(int i) {
        return i >= 0 && i < town.people;
    }

    private static boolean isMinute(int t) {
        return t >= 0 && t <= LAST_MINUTE;
    }

    private static boolean isLaw(int v) {
        return v == 0 || v == 1;
    }

    private static boolean isSum(int what) {
        return what >= 0 && what <= 3;
    }

    private static boolean isSheet(int k) {
        return k >= 0 && k < SHEETS;
    }

    private static boolean isLane(int lane) {
        return lane >= 0 && lane < LANES;
    }

    /** PEOPLE, their DEBTS, LAW and COUNTERS: what a text tells and an IMAGE keeps. */
    private static final class Town {
        int people;
        int law;
        int counters = 1;
        final int[] kind = new int[MOST];
        final int[] father = new int[MOST];
        final int[] comes = new int[MOST];
        final int[] wants = new int[MOST];
        final int[] cost = new int[MOST];
        final int[] coins = new int[MOST];
        /** What a OWES b stands at a * MOST + b; nobody OWES himself. */
        final int[] debts = new int[MOST * MOST];

        void becomeEmpty() {
            people = 0;
            law = 0;
            counters = 1;
            for (int i = 0; i < MOST * MOST; i++) {
                debts[i] = 0;
            }
        }

        void copyOf(Town from) {
            people = from.people;
            law = from.law;
            counters = from.counters;
            System.arraycopy(from.kind, 0, kind, 0, MOST);
            System.arraycopy(from.father, 0, father, 0, MOST);
            System.arraycopy(from.comes, 0, comes, 0, MOST);
            System.arraycopy(from.wants, 0, wants, 0, MOST);
            System.arraycopy(from.cost, 0, cost, 0, MOST);
            System.arraycopy(from.coins, 0, coins, 0, MOST);
            System.arraycopy(from.debts, 0, debts, 0, MOST * MOST);
        }

        boolean isOne(int p) {
            return p >= 0 && p < people;
        }

        boolean areTwo(int a, int b) {
            return isOne(a) && isOne(b) && a != b;
        }

        boolean canBeDebt(int a, int b, int v) {
            return areTwo(a, b) && v >= 0 && v <= MOST_TOLD_DEBT;
        }

        int owed(int a, int b) {
            return debts[a * MOST + b];
        }

        void setDebt(int a, int b, int v) {
            debts[a * MOST + b] = v;
        }

        int dueOf(int a, int b) {
            int due = debts[a * MOST + b];
            // A FATHER who is b himself adds nothing, since nobody OWES himself.
            return kind[a] == SON ? due + debts[father[a] * MOST + b] : due;
        }

        boolean mustLet(int a, int b) {
            if (kind[b] == RICH) {
                return true;
            }
            if (kind[b] == PROUD) {
                return false;
            }
            int due = dueOf(a, b);
            return law == 0 ? due > 0 : due > dueOf(b, a);
        }

        /** Whether a, who MUST let in b, rather pays him. */
        boolean ratherPays(int a, int b) {
            int owed = owed(a, b);
            return kind[a] == PAYER && kind[b] != RICH && owed > 0 && coins[a] >= owed;
        }

        int payOff(int a, int b) {
            int owed = owed(a, b);
            coins[a] -= owed;
            coins[b] += owed;
            setDebt(a, b, 0);
            return owed;
        }

        void lendCoins(int a, int b, int v) {
            coins[a] -= v;
            coins[b] += v;
            setDebt(b, a, owed(b, a) + v);
        }

        /** p gives b what a OWES b, and a OWES it p. */
        void buyDebt(int p, int a, int b) {
            int owed = owed(a, b);
            coins[p] -= owed;
            coins[b] += owed;
            setDebt(a, b, 0);
            setDebt(a, p, owed(a, p) + owed);
        }

        boolean comesAhead(int a, int b) {
            return comes[a] < comes[b] || comes[a] == comes[b] && a < b;
        }

        /** The first of a set (bits) to COME; NONE of an empty one. */
        int firstToCome(int set) {
            int first = NONE;
            for (int p = 0; p < people; p++) {
                if ((set >> p & 1) != 0 && (first < 0 || comes[p] < comes[first])) {
                    first = p;
                }
            }
            return first;
        }

        int debtsAboveNothing() {
            int above = 0;
            for (int i = 0; i < MOST * MOST; i++) {
                if (debts[i] > 0) {
                    above++;
                }
            }
            return above;
        }

        int debtsSummed() {
            int sum = 0;
            for (int i = 0; i < MOST * MOST; i++) {
                sum += debts[i];
            }
            return sum;
        }
    }

    /** ONES, unlike ones, one behind another, from the front on. */
    private static final class Row {
        final int[] ones = new int[MOST];
        int length;

        void add(int p) {
            if (length < MOST) {
                ones[length] = p;
                length++;
            }
        }

        int oneAt(int i) {
            return i >= 0 && i < length ? ones[i] : NONE;
        }

        int placeOf(int p) {
            for (int i = 0; i < length; i++) {
                if (ones[i] == p) {
                    return i;
                }
            }
            return NONE;
        }

        int bits() {
            int set = 0;
            for (int i = 0; i < length; i++) {
                set |= 1 << ones[i];
            }
            return set;
        }

        /** p COMES: what was paid him so that he stops. */
        int letIn(Town town, int p, boolean payersPay) {
            if (length >= MOST) {
                return 0;
            }
            int paid = 0;
            int at = length;
            length++;
            while (at > 0) {
                int ahead = ones[at - 1];
                boolean lets = town.mustLet(ahead, p);
                if (lets && payersPay && town.ratherPays(ahead, p)) {
                    paid += town.payOff(ahead, p);
                    lets = town.mustLet(ahead, p);
                }
                if (!lets) {
                    break;
                }
                ones[at] = ahead;
                at--;
            }
            ones[at] = p;
            return paid;
        }

        int takeFront() {
            if (length == 0) {
                return NONE;
            }
            int front = ones[0];
            length--;
            for (int i = 0; i < length; i++) {
                ones[i] = ones[i + 1];
            }
            return front;
        }

        /** THE ROW of just those of a set (bits). */
        void fillAsTheyCome(Town town, int set) {
            length = 0;
            int left = set;
            for (int i = 0; i < MOST; i++) {
                int p = town.firstToCome(left);
                if (p < 0) {
                    break;
                }
                letIn(town, p, false);
                left &= ~(1 << p);
            }
        }
    }

    /** THE RUN. It has a town of its own, so that what is tried and what payers pay stays in it. */
    private static final class Run {
        private static final int NEVER = 1000;

        final Town town = new Town();
        final Row waiting = new Row();
        final int[] served = new int[MOST];
        final int[] freeFrom = new int[2];
        int paid;

        void load(Town from) {
            town.copyOf(from);
            waiting.length = 0;
            freeFrom[0] = 0;
            freeFrom[1] = 0;
            paid = 0;
        }

        /** Up to and with a MINUTE; only those MINUTES are gone through in which somebody COMES or is taken. */
        void go(int last) {
            int minute = 0;
            for (int turn = 0; turn <= 2 * MOST && minute <= last; turn++) {
                for (int p = 0; p < town.people; p++) {
                    if (town.comes[p] == minute) {
                        paid += waiting.letIn(town, p, true);
                    }
                }
                takeAt(minute);
                minute = minuteBehind(minute);
            }
        }

        void takeAt(int minute) {
            for (int c = 0; c < town.counters; c++) {
                if (freeFrom[c] <= minute && waiting.length > 0) {
                    int p = waiting.takeFront();
                    served[p] = minute;
                    freeFrom[c] = minute + town.wants[p];
                }
            }
        }

        int minuteBehind(int minute) {
            int next = NEVER;
            for (int p = 0; p < town.people; p++) {
                if (town.comes[p] > minute && town.comes[p] < next) {
                    next = town.comes[p];
                }
            }
            // Somebody waits only while no COUNTER is free.
            for (int c = 0; c < town.counters && waiting.length > 0; c++) {
                next = Math.min(next, freeFrom[c]);
            }
            return next;
        }

        int waitOf(int p) {
            return served[p] - town.comes[p];
        }

        int sum(int what) {
            int waits = 0;
            int costs = 0;
            int done = 0;
            for (int p = 0; p < town.people; p++) {
                waits += waitOf(p);
                costs += waitOf(p) * town.cost[p];
                done = Math.max(done, served[p] + town.wants[p]);
            }
            switch (what) {
                case 0: return waits;
                case 1: return costs;
                case 2: return done;
                default: return paid;
            }
        }
    }

    /** What a ONE best does ahead of all, each way tried in a run. */
    private static final class Advice {
        boolean found;
        int wait;
        int coins;
        int whom;

        int answer(int what) {
            if (!found) {
                return NONE;
            }
            switch (what) {
                case 0: return wait;
                case 1: return whom;
                default: return coins;
            }
        }

        void seekPayOff(Run run, Town town, int p, int t) {
            found = false;
            int owedTo = 0;
            for (int b = 0; b < town.people; b++) {
                owedTo |= town.owed(p, b) > 0 ? 1 << b : 0;
            }
            for (int set = 0; set <= owedTo; set++) {
                // Who is OWED nothing would only make the set a greater one.
                if ((set & ~owedTo) == 0) {
                    tryPayOff(run, town, p, t, set);
                }
            }
        }

        void tryPayOff(Run run, Town town, int p, int t, int set) {
            run.load(town);
            int price = 0;
            for (int b = 0; b < town.people; b++) {
                if ((set >> b & 1) != 0) {
                    price += run.town.payOff(p, b);
                }
            }
            if (price > town.coins[p] || found && price >= coins) {
                return;
            }
            run.go(LAST_MINUTE);
            if (run.served[p] <= t) {
                found = true;
                coins = price;
                whom = set;
            }
        }

        void seekLoan(Run run, Town town, int p) {
            startFromNow(run, town, p);
            int most = Math.min(MOST_LENT, town.coins[p]);
            for (int v = 1; v <= most && wait > 0; v++) {
                for (int b = 0; b < town.people; b++) {
                    if (b != p && town.owed(b, p) + v <= MOST_DEBT) {
                        run.load(town);
                        run.town.lendCoins(p, b, v);
                        weigh(run, p, b, v);
                    }
                }
            }
        }

        void seekDebt(Run run, Town town, int p) {
            startFromNow(run, town, p);
            for (int a = 0; a < town.people; a++) {
                for (int b = 0; b < town.people; b++) {
                    int price = town.owed(a, b);
                    boolean another = a != p && b != p && price > 0;
                    if (another && price <= town.coins[p] && town.owed(a, p) + price <= MOST_DEBT) {
                        run.load(town);
                        run.town.buyDebt(p, a, b);
                        weigh(run, p, 10 * a + b, price);
                    }
                }
            }
        }

        void startFromNow(Run run, Town town, int p) {
            run.load(town);
            run.go(LAST_MINUTE);
            found = false;
            wait = run.waitOf(p);
        }

        /** Ways are weighed by their numbers, so that of several that are as good the first stays. */
        void weigh(Run run, int p, int way, int price) {
            run.go(LAST_MINUTE);
            int waitThen = run.waitOf(p);
            if (waitThen < wait || found && waitThen == wait && price < coins) {
                found = true;
                wait = waitThen;
                coins = price;
                whom = way;
            }
        }
    }

    /** ORDERS, RINGS and THE BEST ORDER, over sets (bits) of those who stand ahead already. */
    private static final class Orders {
        int people;
        final int[] lets = new int[MOST];
        final int[] ways = new int[1 << MOST];
        final int[] restCost = new int[1 << MOST];
        final Row found = new Row();

        void ask(Town town) {
            people = town.people;
            for (int a = 0; a < people; a++) {
                lets[a] = 0;
                for (int b = 0; b < people; b++) {
                    if (a != b && town.mustLet(a, b)) {
                        lets[a] |= 1 << b;
                    }
                }
            }
        }

        boolean canFollow(int p, int ahead) {
            return (ahead >> p & 1) == 0 && (lets[p] & ~ahead) == 0;
        }

        int number() {
            int everybody = (1 << people) - 1;
            for (int set = 0; set <= everybody; set++) {
                ways[set] = 0;
            }
            ways[0] = 1;
            for (int set = 0; set < everybody; set++) {
                for (int p = 0; p < people; p++) {
                    if (ways[set] > 0 && canFollow(p, set)) {
                        ways[set | 1 << p] += ways[set];
                    }
                }
            }
            return ways[everybody];
        }

        /** The least who can follow never shuts out an ORDER, if there is one. */
        boolean findFirst() {
            found.length = 0;
            int ahead = 0;
            for (int i = 0; i < people; i++) {
                int next = NONE;
                for (int p = people - 1; p >= 0; p--) {
                    if (canFollow(p, ahead)) {
                        next = p;
                    }
                }
                if (next < 0) {
                    return false;
                }
                found.add(next);
                ahead |= 1 << next;
            }
            return true;
        }

        int ringed() {
            for (int middle = 0; middle < people; middle++) {
                for (int a = 0; a < people; a++) {
                    if ((lets[a] >> middle & 1) != 0) {
                        lets[a] |= lets[middle];
                    }
                }
            }
            int ringed = 0;
            for (int a = 0; a < people; a++) {
                ringed |= lets[a] & 1 << a;
            }
            return ringed;
        }

        boolean findBest(Town town) {
            weighRests(town);
            if (restCost[0] < 0) {
                return false;
            }
            found.length = 0;
            int ahead = 0;
            for (int i = 0; i < people; i++) {
                int minute = minutesOf(town, ahead);
                int next = NONE;
                for (int p = people - 1; p >= 0; p--) {
                    if (costWith(town, p, ahead, minute) == restCost[ahead]) {
                        next = p;
                    }
                }
                if (next < 0) {
                    return false;
                }
                found.add(next);
                ahead |= 1 << next;
            }
            return true;
        }

        int leastCost() {
            return restCost[0];
        }

        /** For each set that stands ahead, the least COST of all the rest; NONE: the rest has no ORDER. */
        void weighRests(Town town) {
            int everybody = (1 << people) - 1;
            restCost[everybody] = 0;
            for (int set = everybody - 1; set >= 0; set--) {
                int minute = minutesOf(town, set);
                int least = NONE;
                for (int p = 0; p < people; p++) {
                    int with = costWith(town, p, set, minute);
                    if (with >= 0 && (least < 0 || with < least)) {
                        least = with;
                    }
                }
                restCost[set] = least;
            }
        }

        /** The least COST of the rest if p is the next one; BAD, which no restCost is: he can not be. */
        int costWith(Town town, int p, int ahead, int minute) {
            if (!canFollow(p, ahead)) {
                return BAD;
            }
            int rest = restCost[ahead | 1 << p];
            return rest < 0 ? BAD : town.cost[p] * minute + rest;
        }

        int minutesOf(Town town, int set) {
            int minutes = 0;
            for (int p = 0; p < people; p++) {
                minutes += (set >> p & 1) != 0 ? town.wants[p] : 0;
            }
            return minutes;
        }
    }

    /** A row of CELLS of a lane; what the machine would find is found by its tests. */
    private static final class Sheet {
        static final int NULL = 1, INDEX = 2, CAST = 3, SIZE = 4;
        private static final int NOTHING = -1;
        private static final int BYTES = 0, SHORTS = 1;

        final int[] cells = new int[MOST_CELLS];
        int lane;
        int size = NOTHING;

        boolean isThere() {
            return size != NOTHING;
        }

        void renew(int asLane, int n) {
            lane = asLane;
            size = n;
            for (int i = 0; i < MOST_CELLS; i++) {
                cells[i] = 0;
            }
        }

        /** The lane is met where CELLS are asked for, as nothing and an index are: who asks for none meets no FAULT. */
        int faultAsOf(int asLane, int from, int some) {
            return isThere() && lane != asLane ? CAST : faultOfCells(from, some);
        }

        /** Of some CELLS, from one on. */
        int faultOfCells(int from, int some) {
            if (!isThere()) {
                return NULL;
            }
            return from < 0 || from > size - some ? INDEX : 0;
        }

        void put(int i, int v) {
            if (lane == BYTES) {
                cells[i] = (byte) v;
            } else if (lane == SHORTS) {
                cells[i] = (short) v;
            } else {
                cells[i] = v;
            }
        }
    }

    /** Bytes that wait to be read as a text. */
    private static final class Tape {
        final byte[] bytes = new byte[MOST_BYTES];
        int length;

        boolean append(long eight) {
            if (length > MOST_BYTES - 8) {
                return false;
            }
            for (int i = 0; i < 8; i++) {
                bytes[length + i] = (byte) (eight >>> 56 - 8 * i);
            }
            length += 8;
            return true;
        }

        boolean isBlank(int at) {
            return bytes[at] == ' ';
        }

        boolean isLetter(int at) {
            return bytes[at] >= 'a' && bytes[at] <= 'z';
        }

        boolean isFigure(int at) {
            return bytes[at] >= '0' && bytes[at] <= '9';
        }
    }

    /** Reads THE TAPE into a draft, TOKEN by TOKEN, until the first FAULT; each part answers whether there was none. */
    private static final class Reader {
        private static final int NO_TOKEN = 1, NOT_THERE = 2, OUT_OF_BOUNDS = 3;
        private static final int NOT_AGAIN = 4, TOO_MANY = 5, NOBODY = 6;
        private static final int NAME = 1, NUMBER = 2, STOP = 3, END = 4;

        final Tape tape = new Tape();
        final Town draft = new Town();
        int fault;
        private int at;
        private int sort;
        private int start;
        private int value;
        private boolean lawTold;
        private boolean countersTold;

        /** How many lines; FAULT_BASE less the place of the FAULT. */
        int readTown() {
            fault = 0;
            at = 0;
            lawTold = false;
            countersTold = false;
            draft.becomeEmpty();
            int lines = 0;
            boolean going = readToken();
            while (going && sort != END && lines <= MOST_BYTES) {
                going = readLine() && readToken();
                lines++;
            }
            return going && allAreThere() ? lines : FAULT_BASE - start;
        }

        private boolean readLine() {
            if (isNamed("law")) {
                return readLaw();
            }
            if (isNamed("counters")) {
                return readCounters();
            }
            if (isNamed("one")) {
                return readOne();
            }
            return isNamed("debt") ? readDebt() : isFaulty(NOT_THERE);
        }

        private boolean readLaw() {
            if (lawTold) {
                return isFaulty(NOT_AGAIN);
            }
            lawTold = true;
            if (!readNumber(0, 1)) {
                return false;
            }
            draft.law = value;
            return readStop();
        }

        private boolean readCounters() {
            if (countersTold) {
                return isFaulty(NOT_AGAIN);
            }
            countersTold = true;
            if (!readNumber(1, 2)) {
                return false;
            }
            draft.counters = value;
            return readStop();
        }

        private boolean readOne() {
            int p = draft.people;
            if (p >= MOST) {
                return isFaulty(TOO_MANY);
            }
            if (!readKind(p) || !readNumber(0, LAST_COMES)) {
                return false;
            }
            draft.comes[p] = value;
            if (!readNumber(1, 9)) {
                return false;
            }
            draft.wants[p] = value;
            if (!readNumber(0, 9)) {
                return false;
            }
            draft.cost[p] = value;
            if (!readNumber(0, MOST_TOLD_COINS)) {
                return false;
            }
            draft.coins[p] = value;
            draft.people++;
            return readStop();
        }

        private boolean readKind(int p) {
            if (!readToken()) {
                return false;
            }
            int kind = kindNamed();
            if (kind < 0) {
                return isFaulty(NOT_THERE);
            }
            draft.kind[p] = kind;
            draft.father[p] = 0;
            if (kind != SON) {
                return true;
            }
            if (!readNumber(0, MOST - 1)) {
                return false;
            }
            draft.father[p] = value;
            return value != p || isFaulty(NOT_AGAIN);
        }

        private int kindNamed() {
            if (isNamed("plain")) {
                return PLAIN;
            }
            if (isNamed("payer")) {
                return PAYER;
            }
            if (isNamed("proud")) {
                return PROUD;
            }
            if (isNamed("rich")) {
                return RICH;
            }
            return isNamed("son") ? SON : NONE;
        }

        private boolean readDebt() {
            if (!readNumber(0, MOST - 1)) {
                return false;
            }
            int a = value;
            if (!readNumber(0, MOST - 1)) {
                return false;
            }
            int b = value;
            if (a == b || draft.owed(a, b) > 0) {
                return isFaulty(NOT_AGAIN);
            }
            if (!readNumber(1, MOST_TOLD_DEBT)) {
                return false;
            }
            draft.setDebt(a, b, value);
            return readStop();
        }

        /** ONES may be named ahead of their own lines, so this is asked behind all. */
        private boolean allAreThere() {
            for (int a = 0; a < MOST; a++) {
                if (draft.isOne(a) && draft.kind[a] == SON && !draft.isOne(draft.father[a])) {
                    return isFaulty(NOBODY);
                }
                for (int b = 0; b < MOST; b++) {
                    if (draft.owed(a, b) > 0 && !draft.areTwo(a, b)) {
                        return isFaulty(NOBODY);
                    }
                }
            }
            return true;
        }

        private boolean readNumber(int least, int most) {
            if (!readToken()) {
                return false;
            }
            if (sort != NUMBER) {
                return isFaulty(NOT_THERE);
            }
            return value >= least && value <= most || isFaulty(OUT_OF_BOUNDS);
        }

        private boolean readStop() {
            return readToken() && (sort == STOP || isFaulty(NOT_THERE));
        }

        private boolean readToken() {
            while (at < tape.length && tape.isBlank(at)) {
                at++;
            }
            start = at;
            value = 0;
            if (at >= tape.length) {
                sort = END;
            } else if (tape.isLetter(at)) {
                sort = NAME;
                while (at < tape.length && tape.isLetter(at)) {
                    at++;
                }
            } else if (tape.isFigure(at)) {
                sort = NUMBER;
                while (at < tape.length && tape.isFigure(at)) {
                    value = value % 10 * 10 + tape.bytes[at] - '0';
                    at++;
                }
                return at - start <= 2 || isFaulty(NO_TOKEN);
            } else {
                sort = STOP;
                at++;
                return tape.bytes[start] == ';' || isFaulty(NO_TOKEN);
            }
            return true;
        }

        private boolean isNamed(String name) {
            if (sort != NAME || at - start != name.length()) {
                return false;
            }
            for (int i = 0; i < name.length(); i++) {
                if (tape.bytes[start + i] != name.charAt(i)) {
                    return false;
                }
            }
            return true;
        }

        /** The FAULT is of the TOKEN that was read last. */
        private boolean isFaulty(int which) {
            fault = which;
            return false;
        }
    }
}
