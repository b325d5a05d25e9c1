import java.util.Arrays;
import java.util.NoSuchElementException;

/**
 * A desk for certificates of works. What each call promises stands in DOC.md, whose words are used here.
 *
 * All rows are made in the constructors and used again, so that no call makes an object. A question
 * "what if" tells the book what it asks about, reckons, and puts back what was told.
 */
public final class WorksDesk {
    public static final int NONE = -1;

    private static final int MONTHS = 24;
    private static final int LAST_MONTH = MONTHS - 1;
    /** A MONTH that is not told: behind all others, so that what holds from it on never holds. */
    private static final int NEVER = MONTHS;
    /** In a series: nothing is told in that MONTH. */
    private static final int UNTOLD = -1;

    private static final int MOST_SIGNS = 120;
    private static final int MOST_ITEMS = 10;
    private static final int MOST_CHANGES = 8;
    private static final int MOST_SET_OFFS = 6;
    private static final int MOST_KIND = 4;
    private static final int MOST_RATE = 999;
    private static final int MOST_CHANGED = 999;
    private static final int MOST_MEASURED = 1999;
    private static final int MOST_AMOUNT = 99999;
    private static final int MOST_PAID = 999999;
    private static final int MOST_GRANTED = 12;
    private static final int MOST_KEEP = 200;
    private static final int LEAST_INDEX = 500;
    private static final int MOST_INDEX = 2000;
    private static final int WHOLE = 1000;

    /** Answers below NONE: each call has its own reason for them. */
    private static final int IT_IS_SO = -2;
    private static final int FULL = -2;
    private static final int NOT_THERE = -2;
    private static final int OUT_OF_ORDER = -3;

    private static final int WORK = 0;
    private static final int VARIED = 1;
    private static final int MATERIALS = 2;
    private static final int RETAINED = 3;
    private static final int RECOVERED = 4;
    private static final int SET = 5;
    private static final int NET = 6;
    private static final int CERTIFIED = 7;
    private static final int TOTAL = 8;
    private static final int OWED = 9;
    private static final int INTEREST = 10;
    private static final int ALL_INTEREST = 11;
    private static final int ALL_PAID = 12;
    private static final int DAMAGES = 13;
    private static final int ADJUSTED = 14;
    private static final int AMOUNTS = 15;

    private final Text text = new Text();
    private final BillReader reader = new BillReader();
    private final Book book = new Book();
    private final Figures real = new Figures();
    private final Figures asIf = new Figures();
    private final long[] otherPayments = new long[MONTHS];
    private final Row lastRow = new Row();

    public WorksDesk() {
    }

    // ---- what is told

    public int sign(int v) {
        return text.append(v) ? text.size : NONE;
    }

    public boolean end(int n) {
        return text.cutTo(n);
    }

    public int bill() {
        int answer = reader.read(text);
        text.size = 0;
        if (answer >= 0) {
            book.startWith(reader.draft);
        }
        return answer;
    }

    public int terms(int term, int v) {
        if (!Terms.allow(term, v)) {
            return NONE;
        }
        int was = book.clauses.of(term);
        if (was == v) {
            return IT_IS_SO;
        }
        book.clauses.put(term, v);
        return was;
    }

    public int measures(int month, int item, int quantity) {
        if (!isMeasure(month, item, quantity)) {
            return NONE;
        }
        return tellAnew(book.measured[item], month, quantity);
    }

    public int strikes(int month, int item) {
        if (!isMonth(month) || !book.items.has(item)) {
            return NONE;
        }
        Series series = book.measured[item];
        if (!series.isTold(month)) {
            return NOT_THERE;
        }
        series.tell(month, UNTOLD);
        return series.latest(month);
    }

    public int stores(int month, int v) {
        if (!isMonth(month) || !isWithin(v, 0, MOST_AMOUNT)) {
            return NONE;
        }
        return tellAnew(book.stored, month, v);
    }

    public int change(int month, int kind, int quantity, int rate) {
        if (!isMonth(month) || !isKind(kind) || !isChanged(quantity) || !isRate(rate)) {
            return NONE;
        }
        if (book.changes.size >= MOST_CHANGES) {
            return FULL;
        }
        return book.changes.add(month, kind, quantity, book.items.price(kind, rate));
    }

    public int alters(int change, int quantity) {
        if (!book.changes.has(change) || !isChanged(quantity)) {
            return NONE;
        }
        int was = book.changes.quantities[change];
        if (was == quantity) {
            return IT_IS_SO;
        }
        book.changes.quantities[change] = quantity;
        return was;
    }

    public int setsOff(int month, int amount) {
        if (!isMonth(month) || !isWithin(amount, 1, MOST_AMOUNT)) {
            return NONE;
        }
        if (book.setOffs.size >= MOST_SET_OFFS) {
            return FULL;
        }
        return book.setOffs.add(month, amount);
    }

    public int disputes(int setOff, int month) {
        if (!isDispute(setOff, month)) {
            return NONE;
        }
        if (book.setOffs.isDisputed(setOff)) {
            return IT_IS_SO;
        }
        book.setOffs.disputed[setOff] = month;
        return book.setOffs.open();
    }

    public int decides(int setOff, int month, int upheld) {
        SetOffs all = book.setOffs;
        if (!all.has(setOff) || !isMonth(month) || !isWithin(upheld, 0, WHOLE)) {
            return NONE;
        }
        boolean disputed = all.isDisputed(setOff);
        if (disputed && month < all.disputed[setOff]) {
            return NONE;
        }
        if (!disputed) {
            return NOT_THERE;
        }
        if (all.isDecided(setOff)) {
            return OUT_OF_ORDER;
        }
        all.decided[setOff] = month;
        all.upheld[setOff] = upheld;
        return all.heldIn(setOff, month);
    }

    public int handover(int month) {
        if (!isMonth(month)) {
            return NONE;
        }
        int was = book.handedOver;
        if (was == month) {
            return IT_IS_SO;
        }
        // a FINAL that is not told stands behind every MONTH
        if (book.closed < month) {
            return OUT_OF_ORDER;
        }
        book.handedOver = month;
        return was;
    }

    public int closes(int month) {
        if (!isMonth(month)) {
            return NONE;
        }
        int was = book.closed;
        if (was == month) {
            return IT_IS_SO;
        }
        // a HANDOVER that is not told stands behind every MONTH
        if (book.handedOver > month) {
            return OUT_OF_ORDER;
        }
        book.closed = month;
        return was;
    }

    public int pays(int month, int v) {
        if (!isMonth(month) || !isWithin(v, 0, MOST_PAID)) {
            return NONE;
        }
        int was = (int) book.paid[month];
        if (was == v) {
            return IT_IS_SO;
        }
        book.paid[month] = v;
        return was;
    }

    public int due(int month) {
        if (!isMonth(month)) {
            return NONE;
        }
        int was = book.dueBy;
        if (was == month) {
            return IT_IS_SO;
        }
        book.dueBy = month;
        return was;
    }

    public int grants(int n) {
        if (!isWithin(n, 1, MOST_GRANTED)) {
            return NONE;
        }
        if (book.dueBy == NEVER) {
            return NOT_THERE;
        }
        if (book.granted + n > MOST_GRANTED) {
            return OUT_OF_ORDER;
        }
        book.granted += n;
        return book.granted;
    }

    public int indexes(int month, int v) {
        if (!isIndex(month, v)) {
            return NONE;
        }
        return tellAnew(book.index, month, v);
    }

    // ---- months

    public long amount(int month, int what) throws NoSuchElementException {
        if (!isMonth(month) || !isWithin(what, 0, AMOUNTS - 1)) {
            throw new NoSuchElementException();
        }
        real.reckon(book);
        return real.of(what, month);
    }

    public int item(int month, int item) {
        if (!isMonth(month) || !book.items.has(item)) {
            return NONE;
        }
        lastRow.start(book.part(item, month)).then(book.partMore(item, month));
        lastRow.then(book.isAboveCap(item, month) ? 1 : 0);
        return book.done(item, month);
    }

    public int priced(int change) {
        Changes all = book.changes;
        if (!all.has(change)) {
            return NONE;
        }
        int kind = all.kinds[change];
        lastRow.start(all.months[change]).then(kind).then(all.quantities[change]).then(all.worth(change));
        lastRow.then(Integer.bitCount(book.items.likeBits(kind)));
        return all.prices[change];
    }

    public int held(int setOff, int month) {
        SetOffs all = book.setOffs;
        if (!all.has(setOff) || !isMonth(month)) {
            return NONE;
        }
        lastRow.start(all.months[setOff]).then(all.amounts[setOff]);
        lastRow.then(monthOrNone(all.disputed[setOff])).then(monthOrNone(all.decided[setOff]));
        lastRow.then(all.upheld[setOff]);
        return all.heldIn(setOff, month);
    }

    public int sum() {
        lastRow.start(book.advanced()).then(book.limit()).then(book.items.size);
        lastRow.then(100L * book.handedOver + book.closed);
        return book.items.total;
    }

    public int lines(int month) {
        if (!isMonth(month)) {
            return NONE;
        }
        real.reckon(book);
        lastRow.start(real.fresh(WORK, month)).then(real.fresh(MATERIALS, month));
        lastRow.then(real.fresh(RETAINED, month)).then(real.fresh(RECOVERED, month));
        lastRow.then(real.fresh(SET, month));
        return 0;
    }

    // ---- all months

    public int recovered() {
        real.reckon(book);
        return orNotThere(real.firstOf(RECOVERED, book.advanced(), MONTHS));
    }

    public int limited() {
        long limit = book.limit();
        if (limit <= 0) {
            return NOT_THERE;
        }
        real.reckon(book);
        return orNotThere(real.firstOf(RETAINED, limit, book.handedOver));
    }

    public int reaches(long v) {
        if (v < 1) {
            return NONE;
        }
        real.reckon(book);
        for (int month = 0; month < MONTHS; month++) {
            if (real.of(TOTAL, month) >= v) {
                lastRow.start(real.of(TOTAL, month));
                return month;
            }
        }
        return NOT_THERE;
    }

    public int worst() {
        real.reckon(book);
        int worst = 0;
        int many = 0;
        for (int month = 0; month < MONTHS; month++) {
            if (real.of(OWED, month) > real.of(OWED, worst)) {
                worst = month;
            }
            if (real.of(OWED, month) > 0) {
                many++;
            }
        }
        lastRow.start(real.of(OWED, worst)).then(many);
        return worst;
    }

    public int clears(int month) {
        if (!isMonth(month)) {
            return NONE;
        }
        real.reckon(book);
        long more = real.of(OWED, month);
        System.arraycopy(book.paid, 0, otherPayments, 0, MONTHS);
        otherPayments[month] += more;
        real.reckonDebt(book.clauses, otherPayments);
        lastRow.start(more).then(real.of(ALL_INTEREST, LAST_MONTH));
        return 0;
    }

    public int paces(int month, int v) {
        if (!isMonth(month) || !isWithin(v, 1, MOST_PAID)) {
            return NONE;
        }
        payFrom(month, v);
        for (int at = month; at < MONTHS; at++) {
            if (real.of(OWED, at) == 0) {
                lastRow.start(real.of(ALL_INTEREST, LAST_MONTH));
                return at;
            }
        }
        return NOT_THERE;
    }

    public int enough(int month, int by) {
        if (!isMonth(month) || !isMonth(by) || by < month) {
            return NONE;
        }
        // by 0 a MONTH what is OWED is all that the pace has to pay till then
        payFrom(month, 0);
        long least = MOST_PAID + 1L;
        for (int at = month; at <= by; at++) {
            long payments = at - month + 1;
            least = Math.min(least, (real.of(OWED, at) + payments - 1) / payments);
        }
        if (least > MOST_PAID) {
            return NOT_THERE;
        }
        lastRow.start(Math.max(least, 1));
        return 0;
    }

    public int shifts(int month, int item, int quantity) {
        if (!isMeasure(month, item, quantity)) {
            return NONE;
        }
        reckonAsIfTold(book.measured[item], month, quantity);
        int first = NONE;
        int many = 0;
        for (int at = LAST_MONTH; at >= 0; at--) {
            if (asIf.of(CERTIFIED, at) != real.of(CERTIFIED, at)) {
                first = at;
                many++;
            }
        }
        lastRow.start(first).then(first == NONE ? 0 : moreAsIf(CERTIFIED, first));
        lastRow.then(moreAsIf(TOTAL, LAST_MONTH));
        return many;
    }

    public int were(int setOff, int month) {
        if (!isDispute(setOff, month)) {
            return NONE;
        }
        real.reckon(book);
        reckonAsIfDisputed(setOff, month);
        tellTotalAndInterest();
        return 0;
    }

    public int dearest() {
        int dearest = NOT_THERE;
        long greatest = NONE;
        for (int setOff = 0; setOff < book.setOffs.size; setOff++) {
            if (book.setOffs.isDisputed(setOff)) {
                continue;
            }
            reckonAsIfDisputed(setOff, book.setOffs.months[setOff]);
            long interest = asIf.of(ALL_INTEREST, LAST_MONTH);
            if (interest > greatest) {
                greatest = interest;
                dearest = setOff;
            }
        }
        if (dearest >= 0) {
            lastRow.start(greatest);
        }
        return dearest;
    }

    public int ends(int item) {
        if (!book.items.has(item)) {
            return NONE;
        }
        Series series = book.measured[item];
        int last = series.lastToldAhead(MONTHS);
        if (last == NONE) {
            return NOT_THERE;
        }
        int quantity = book.items.quantities[item];
        int reached = series.firstAtLeast(quantity);
        if (reached != NONE) {
            lastRow.start(0);
            return reached;
        }
        int pace = series.pace(last);
        if (pace <= 0) {
            return OUT_OF_ORDER;
        }
        lastRow.start(pace);
        return last + (quantity - series.latest(last) + pace - 1) / pace;
    }

    public int leads(int month) {
        if (!isMonth(month)) {
            return NONE;
        }
        if (book.items.size == 0) {
            return NOT_THERE;
        }
        int leader = 0;
        for (int item = 1; item < book.items.size; item++) {
            if (book.partMore(item, month) > book.partMore(leader, month)) {
                leader = item;
            }
        }
        lastRow.start(book.partMore(leader, month));
        return leader;
    }

    public int above(int month) {
        if (!isMonth(month)) {
            return NONE;
        }
        int aboveQuantity = 0;
        int aboveCap = 0;
        int fallen = 0;
        for (int item = 0; item < book.items.size; item++) {
            int bit = 1 << item;
            int done = book.done(item, month);
            aboveQuantity |= done > book.items.quantities[item] ? bit : 0;
            aboveCap |= book.isAboveCap(item, month) ? bit : 0;
            fallen |= month > 0 && done < book.done(item, month - 1) ? bit : 0;
        }
        lastRow.start(aboveCap).then(fallen);
        return aboveQuantity;
    }

    public int like(int kind, int rate) {
        if (!isKind(kind) || !isRate(rate)) {
            return NONE;
        }
        Bill items = book.items;
        lastRow.start(items.likeBits(kind)).then(items.leastRate(kind)).then(items.greatestRate(kind));
        return items.price(kind, rate);
    }

    public int would(int term, int v) {
        if (!Terms.allow(term, v)) {
            return NONE;
        }
        int was = book.clauses.of(term);
        real.reckon(book);
        book.clauses.put(term, v);
        asIf.reckon(book);
        book.clauses.put(term, was);
        tellTotalAndInterest();
        return 0;
    }

    public int keeps(int v) {
        if (v < 1) {
            return NONE;
        }
        real.reckon(book);
        for (int keep = 0; keep <= MOST_KEEP; keep++) {
            long greatest = greatestRetained(keep);
            if (greatest >= v) {
                lastRow.start(greatest);
                return keep;
            }
        }
        return NOT_THERE;
    }

    public int overdue() {
        if (book.dueBy == NEVER) {
            return NOT_THERE;
        }
        int first = NONE;
        long most = book.mostDamages();
        for (int month = LAST_MONTH; month >= 0 && most > 0; month--) {
            if (book.damages(month) == most) {
                first = month;
            }
        }
        lastRow.start(book.damages(LAST_MONTH)).then(first);
        return book.lateMonths(LAST_MONTH);
    }

    public int needed() {
        if (book.dueBy == NEVER) {
            return NOT_THERE;
        }
        real.reckon(book);
        int granted = book.granted;
        int more = 0;
        while (more < MONTHS && book.damages(LAST_MONTH) > 0) {
            more++;
            book.granted = granted + more;
        }
        asIf.reckon(book);
        book.granted = granted;
        lastRow.start(moreAsIf(TOTAL, LAST_MONTH));
        return more;
    }

    public int rises(int month, int v) {
        if (!isIndex(month, v)) {
            return NONE;
        }
        reckonAsIfTold(book.index, month, v);
        lastRow.start(moreAsIf(TOTAL, LAST_MONTH)).then(moreAsIf(ADJUSTED, LAST_MONTH));
        return 0;
    }

    // ---- the final account

    public int account() {
        int at = book.closed;
        if (!isMonth(at)) {
            return NOT_THERE;
        }
        real.reckon(book);
        long paid = real.of(ALL_PAID, at);
        lastRow.start(real.of(WORK, at)).then(real.of(SET, at)).then(paid);
        lastRow.then(real.of(TOTAL, at) - paid).then(real.of(ALL_INTEREST, at));
        return 0;
    }

    public int count(int what) {
        if (what >= 10) {
            return Terms.has(what - 10) ? book.clauses.of(what - 10) : NONE;
        }
        switch (what) {
            case 0: return book.items.size;
            case 1: return book.changes.size;
            case 2: return book.setOffs.size;
            case 3: return monthOrNone(book.handedOver);
            case 4: return monthOrNone(book.closed);
            case 5: return book.measuredMonths();
            case 6: return lastRow.size;
            case 7: return text.size;
            case 8: return book.dueBy == NEVER ? NONE : book.dueBy + book.granted;
            case 9: return book.granted;
            default: return NONE;
        }
    }

    public long row(int i) throws NoSuchElementException {
        if (i < 0 || i >= lastRow.size) {
            throw new NoSuchElementException();
        }
        return lastRow.numbers[i];
    }

    // ---- what may be told

    private static boolean isWithin(int v, int least, int most) {
        return v >= least && v <= most;
    }

    private static boolean isMonth(int month) {
        return isWithin(month, 0, LAST_MONTH);
    }

    private static boolean isKind(int kind) {
        return isWithin(kind, 0, MOST_KIND);
    }

    private static boolean isRate(int rate) {
        return isWithin(rate, 0, MOST_RATE);
    }

    private static boolean isChanged(int quantity) {
        return quantity != 0 && isWithin(quantity, -MOST_CHANGED, MOST_CHANGED);
    }

    private static boolean isIndex(int month, int v) {
        return isMonth(month) && isWithin(v, LEAST_INDEX, MOST_INDEX);
    }

    private boolean isMeasure(int month, int item, int quantity) {
        return isMonth(month) && book.items.has(item) && isWithin(quantity, 0, MOST_MEASURED);
    }

    private boolean isDispute(int setOff, int month) {
        return book.setOffs.has(setOff) && isMonth(month) && month >= book.setOffs.months[setOff];
    }

    // ---- what several calls share

    private static long thousandths(int n, long of) {
        return of * n / WHOLE;
    }

    private static int monthOrNone(int month) {
        return month == NEVER ? NONE : month;
    }

    private static int orNotThere(int month) {
        return month == NONE ? NOT_THERE : month;
    }

    private static int tellAnew(Series series, int month, int v) {
        if (series.isTold(month) && series.latest(month) == v) {
            return IT_IS_SO;
        }
        int was = series.latest(month);
        series.tell(month, v);
        return was;
    }

    private void reckonAsIfTold(Series series, int month, int v) {
        int told = series.told[month];
        real.reckon(book);
        series.tell(month, v);
        asIf.reckon(book);
        series.tell(month, told);
    }

    private void reckonAsIfDisputed(int setOff, int month) {
        SetOffs all = book.setOffs;
        int disputed = all.disputed[setOff];
        int decided = all.decided[setOff];
        all.disputed[setOff] = month;
        all.decided[setOff] = NEVER;
        asIf.reckon(book);
        all.disputed[setOff] = disputed;
        all.decided[setOff] = decided;
    }

    private void payFrom(int month, int v) {
        for (int at = 0; at < MONTHS; at++) {
            otherPayments[at] = at < month ? book.paid[at] : v;
        }
        real.reckon(book);
        real.reckonDebt(book.clauses, otherPayments);
    }

    private long moreAsIf(int what, int month) {
        return asIf.of(what, month) - real.of(what, month);
    }

    private void tellTotalAndInterest() {
        lastRow.start(moreAsIf(TOTAL, LAST_MONTH)).then(moreAsIf(ALL_INTEREST, LAST_MONTH));
    }

    private long greatestRetained(int keep) {
        long greatest = 0;
        for (int month = 0; month < MONTHS; month++) {
            greatest = Math.max(greatest, book.retained(keep, real.of(WORK, month), month));
        }
        return greatest;
    }

    /** THE TEXT. */
    private static final class Text {
        final int[] signs = new int[MOST_SIGNS];
        int size = 0;

        boolean append(int v) {
            if (size > MOST_SIGNS - 4) {
                return false;
            }
            for (int shift = 24; shift >= 0; shift -= 8) {
                signs[size] = (v >>> shift) & 255;
                size++;
            }
            return true;
        }

        boolean cutTo(int n) {
            if (n < 0 || n > size) {
                return false;
            }
            size = n;
            return true;
        }

        /** NONE at the end, so that a reader that goes by signs stops there too. */
        int signAt(int p) {
            return p >= 0 && p < size ? signs[p] : NONE;
        }
    }

    /** Reads THE TEXT into a draft, so that a refused BILL leaves the one that stands. */
    private static final class BillReader {
        final Bill draft = new Bill();
        private int at = 0;

        int read(Text text) {
            at = 0;
            draft.clear();
            if (text.size == 0) {
                return 0;
            }
            for (int item = 0; item < MOST_ITEMS; item++) {
                if (!readItem(text)) {
                    return -1 - at;
                }
                if (at == text.size) {
                    return draft.size;
                }
                if (item == MOST_ITEMS - 1 || !pass(text, ';')) {
                    return -1 - at;
                }
            }
            return -1 - at;
        }

        private boolean readItem(Text text) {
            int kind = text.signAt(at) - '0';
            if (!isKind(kind)) {
                return false;
            }
            at++;
            if (!pass(text, ':')) {
                return false;
            }
            int quantity = readNumber(text);
            if (quantity == 0 || !pass(text, '*')) {
                return false;
            }
            int rate = readNumber(text);
            if (rate == 0) {
                return false;
            }
            draft.add(kind, quantity, rate);
            return true;
        }

        private boolean pass(Text text, char sign) {
            if (text.signAt(at) != sign) {
                return false;
            }
            at++;
            return true;
        }

        /** 0 tells of a fault: at its last digit, or at the sign behind it that can't stand there. */
        private int readNumber(Text text) {
            int number = 0;
            int digits = 0;
            while (digits < 3 && isDigit(text)) {
                number = 10 * number + text.signAt(at) - '0';
                digits++;
                at++;
            }
            // Three digits of 0 with a fourth behind them: the third is not the last, so the fourth is the fault.
            if (digits > 0 && number == 0 && !isDigit(text)) {
                at--;
            }
            return number;
        }

        private boolean isDigit(Text text) {
            return isWithin(text.signAt(at), '0', '9');
        }
    }

    /** The BILL: its ITEMS. */
    private static final class Bill {
        final int[] kinds = new int[MOST_ITEMS];
        final int[] quantities = new int[MOST_ITEMS];
        final int[] rates = new int[MOST_ITEMS];
        int size = 0;
        int total = 0;

        void clear() {
            size = 0;
            total = 0;
        }

        void add(int kind, int quantity, int rate) {
            if (size >= MOST_ITEMS) {
                return;
            }
            kinds[size] = kind;
            quantities[size] = quantity;
            rates[size] = rate;
            size++;
            total += quantity * rate;
        }

        void take(Bill other) {
            clear();
            for (int item = 0; item < other.size; item++) {
                add(other.kinds[item], other.quantities[item], other.rates[item]);
            }
        }

        boolean has(int item) {
            return item >= 0 && item < size;
        }

        int likeBits(int kind) {
            int bits = 0;
            for (int item = 0; item < size; item++) {
                bits |= kinds[item] == kind ? 1 << item : 0;
            }
            return bits;
        }

        int price(int kind, int rate) {
            int worth = 0;
            int many = 0;
            for (int item = 0; item < size; item++) {
                if (kinds[item] == kind) {
                    worth += quantities[item] * rates[item];
                    many += quantities[item];
                }
            }
            return many > 0 ? worth / many : rate;
        }

        int leastRate(int kind) {
            int least = 0;
            for (int item = 0; item < size; item++) {
                if (kinds[item] == kind && (least == 0 || rates[item] < least)) {
                    least = rates[item];
                }
            }
            return least;
        }

        int greatestRate(int kind) {
            int greatest = 0;
            for (int item = 0; item < size; item++) {
                if (kinds[item] == kind) {
                    greatest = Math.max(greatest, rates[item]);
                }
            }
            return greatest;
        }
    }

    /** The TERMS: what they are, by their numbers. */
    private static final class Terms {
        static final int KEEP = 0;
        static final int LIMIT = 1;
        static final int HALF = 2;
        static final int ADVANCE = 3;
        static final int START = 4;
        static final int RECOVER = 5;
        static final int STORED = 6;
        static final int LATE = 7;
        static final int GRACE = 8;
        static final int ABOVE = 9;
        static final int CHEAP = 10;
        static final int DAMAGE = 11;
        static final int MOST = 12;
        static final int FOLLOW = 13;
        private static final int MANY = 14;
        private static final int[] GREATEST = {200, 200, 1000, 300, 500, 1000, 1000, 100, 6, 500, 1000, 50, 200, 1000};
        private static final int[] AT_FIRST = {100, 50, 500, 100, 200, 250, 800, 10, 1, 150, 900, 0, 100, 0};

        private final int[] values = new int[MANY];

        Terms() {
            System.arraycopy(AT_FIRST, 0, values, 0, MANY);
        }

        static boolean has(int term) {
            return term >= 0 && term < MANY;
        }

        static boolean allow(int term, int v) {
            return has(term) && isWithin(v, 0, GREATEST[term]);
        }

        int of(int term) {
            return values[term];
        }

        void put(int term, int v) {
            values[term] = v;
        }
    }

    /** Numbers told of MONTHS, each of which stands till the next one told. */
    private static final class Series {
        final int[] told = new int[MONTHS];
        private final int[] standing = new int[MONTHS];
        private final int without;

        Series(int without) {
            this.without = without;
            Arrays.fill(told, UNTOLD);
            Arrays.fill(standing, without);
        }

        void clear() {
            Arrays.fill(told, UNTOLD);
            Arrays.fill(standing, without);
        }

        boolean isTold(int month) {
            return told[month] != UNTOLD;
        }

        int latest(int month) {
            return standing[month];
        }

        void tell(int month, int v) {
            told[month] = v;
            int stands = month > 0 ? standing[month - 1] : without;
            for (int at = month; at < MONTHS; at++) {
                if (isTold(at)) {
                    stands = told[at];
                }
                standing[at] = stands;
            }
        }

        int firstAtLeast(int v) {
            for (int month = 0; month < MONTHS; month++) {
                if (standing[month] >= v) {
                    return month;
                }
            }
            return NONE;
        }

        int lastToldAhead(int month) {
            for (int at = month - 1; at >= 0; at--) {
                if (isTold(at)) {
                    return at;
                }
            }
            return NONE;
        }

        /** How much a MONTH it went on by till the last MONTH told. */
        int pace(int last) {
            int ahead = lastToldAhead(last);
            if (ahead == NONE || ahead >= last) {
                return standing[last];
            }
            return (standing[last] - standing[ahead]) / (last - ahead);
        }
    }

    /** The CHANGES; a PRICE holds as long as the BILL, with which they all go. */
    private static final class Changes {
        final int[] months = new int[MOST_CHANGES];
        final int[] kinds = new int[MOST_CHANGES];
        final int[] quantities = new int[MOST_CHANGES];
        final int[] prices = new int[MOST_CHANGES];
        int size = 0;

        boolean has(int change) {
            return change >= 0 && change < size;
        }

        int add(int month, int kind, int quantity, int price) {
            if (size >= MOST_CHANGES) {
                return NONE;
            }
            months[size] = month;
            kinds[size] = kind;
            quantities[size] = quantity;
            prices[size] = price;
            size++;
            return size - 1;
        }

        long worth(int change) {
            return (long) quantities[change] * prices[change];
        }

        long worthTill(int month) {
            long worth = 0;
            for (int change = 0; change < size; change++) {
                if (months[change] <= month) {
                    worth += worth(change);
                }
            }
            return worth;
        }
    }

    /** The SET-OFFS. */
    private static final class SetOffs {
        final int[] months = new int[MOST_SET_OFFS];
        final int[] amounts = new int[MOST_SET_OFFS];
        final int[] disputed = new int[MOST_SET_OFFS];
        final int[] decided = new int[MOST_SET_OFFS];
        final int[] upheld = new int[MOST_SET_OFFS];
        int size = 0;

        boolean has(int setOff) {
            return setOff >= 0 && setOff < size;
        }

        boolean isDisputed(int setOff) {
            return disputed[setOff] != NEVER;
        }

        boolean isDecided(int setOff) {
            return decided[setOff] != NEVER;
        }

        int add(int month, int amount) {
            if (size >= MOST_SET_OFFS) {
                return NONE;
            }
            months[size] = month;
            amounts[size] = amount;
            disputed[size] = NEVER;
            decided[size] = NEVER;
            upheld[size] = 0;
            size++;
            return size - 1;
        }

        int open() {
            int many = 0;
            for (int setOff = 0; setOff < size; setOff++) {
                if (isDisputed(setOff) && !isDecided(setOff)) {
                    many++;
                }
            }
            return many;
        }

        int heldIn(int setOff, int month) {
            if (month < months[setOff]) {
                return 0;
            }
            if (month >= decided[setOff]) {
                return (int) thousandths(upheld[setOff], amounts[setOff]);
            }
            return month >= disputed[setOff] ? 0 : amounts[setOff];
        }

        long allHeldIn(int month) {
            long held = 0;
            for (int setOff = 0; setOff < size; setOff++) {
                held += heldIn(setOff, month);
            }
            return held;
        }
    }

    /** All that is told, and what follows from it for a MONTH alone. */
    private static final class Book {
        final Bill items = new Bill();
        final Terms clauses = new Terms();
        final Series[] measured = new Series[MOST_ITEMS];
        final Series stored = new Series(0);
        final Series index = new Series(WHOLE);
        final Changes changes = new Changes();
        final SetOffs setOffs = new SetOffs();
        final long[] paid = new long[MONTHS];
        int handedOver = NEVER;
        int closed = NEVER;
        int dueBy = NEVER;
        int granted = 0;

        Book() {
            for (int item = 0; item < MOST_ITEMS; item++) {
                measured[item] = new Series(0);
            }
        }

        void startWith(Bill bill) {
            items.take(bill);
            for (int item = 0; item < MOST_ITEMS; item++) {
                measured[item].clear();
            }
            stored.clear();
            index.clear();
            changes.size = 0;
            setOffs.size = 0;
            Arrays.fill(paid, 0);
            handedOver = NEVER;
            closed = NEVER;
            dueBy = NEVER;
            granted = 0;
        }

        int measuredMonths() {
            int many = 0;
            for (int month = 0; month < MONTHS; month++) {
                many += isMeasured(month) ? 1 : 0;
            }
            return many;
        }

        private boolean isMeasured(int month) {
            for (int item = 0; item < items.size; item++) {
                if (measured[item].isTold(month)) {
                    return true;
                }
            }
            return false;
        }

        long advanced() {
            return thousandths(clauses.of(Terms.ADVANCE), items.total);
        }

        long limit() {
            return thousandths(clauses.of(Terms.LIMIT), items.total);
        }

        int done(int item, int month) {
            return measured[item].latest(month);
        }

        long cap(int item) {
            int quantity = items.quantities[item];
            return quantity + thousandths(clauses.of(Terms.ABOVE), quantity);
        }

        boolean isAboveCap(int item, int month) {
            return done(item, month) > cap(item);
        }

        long part(int item, int month) {
            long done = done(item, month);
            long cap = cap(item);
            long rate = items.rates[item];
            if (done <= cap) {
                return done * rate;
            }
            return cap * rate + (done - cap) * thousandths(clauses.of(Terms.CHEAP), rate);
        }

        long partMore(int item, int month) {
            return part(item, month) - (month > 0 ? part(item, month - 1) : 0);
        }

        long work(int month) {
            long work = changes.worthTill(month);
            for (int item = 0; item < items.size; item++) {
                work += part(item, month);
            }
            return work;
        }

        long materials(int month) {
            return month >= handedOver ? 0 : thousandths(clauses.of(Terms.STORED), stored.latest(month));
        }

        long retained(int keep, long work, int month) {
            if (month >= closed || work < 0) {
                return 0;
            }
            long all = Math.min(thousandths(keep, work), limit());
            return month >= handedOver ? all - thousandths(clauses.of(Terms.HALF), all) : all;
        }

        long recoveredFor(long work, long before, int month) {
            long advanced = advanced();
            if (month >= closed) {
                return advanced;
            }
            long above = Math.max(0, work - thousandths(clauses.of(Terms.START), items.total));
            return Math.max(before, Math.min(advanced, thousandths(clauses.of(Terms.RECOVER), above)));
        }

        int lateMonths(int month) {
            return Math.max(0, Math.min(month, handedOver) - (dueBy + granted));
        }

        long mostDamages() {
            return thousandths(clauses.of(Terms.MOST), items.total);
        }

        /** Without a DUE no MONTH is late: it stands behind all others. */
        long damages(int month) {
            long all = lateMonths(month) * thousandths(clauses.of(Terms.DAMAGE), items.total);
            return Math.min(all, mostDamages());
        }

        long adjustedFor(long moreWork, int month) {
            long byIndex = moreWork * (index.latest(month) - WHOLE) / WHOLE;
            return thousandths(clauses.of(Terms.FOLLOW), byIndex);
        }
    }

    /** What is reckoned of a book: of each amount a row of MONTHS. */
    private static final class Figures {
        private final long[][] rows = new long[AMOUNTS][MONTHS];

        long of(int what, int month) {
            return rows[what][month];
        }

        long ahead(int what, int month) {
            return month > 0 ? rows[what][month - 1] : 0;
        }

        long fresh(int what, int month) {
            return of(what, month) - ahead(what, month);
        }

        int firstOf(int what, long v, int before) {
            for (int month = 0; month < MONTHS && month < before; month++) {
                if (of(what, month) == v) {
                    return month;
                }
            }
            return NONE;
        }

        void reckon(Book book) {
            for (int month = 0; month < MONTHS; month++) {
                rows[WORK][month] = book.work(month);
                rows[VARIED][month] = book.changes.worthTill(month);
                reckonNet(book, month);
                reckonCertified(book, month);
            }
            reckonDebt(book.clauses, book.paid);
        }

        private void reckonNet(Book book, int month) {
            long work = of(WORK, month);
            long materials = book.materials(month);
            long adjusted = ahead(ADJUSTED, month) + book.adjustedFor(fresh(WORK, month), month);
            long retained = book.retained(book.clauses.of(Terms.KEEP), work, month);
            long recovered = book.recoveredFor(work, ahead(RECOVERED, month), month);
            long set = book.setOffs.allHeldIn(month);
            long damages = book.damages(month);
            rows[MATERIALS][month] = materials;
            rows[ADJUSTED][month] = adjusted;
            rows[RETAINED][month] = retained;
            rows[RECOVERED][month] = recovered;
            rows[SET][month] = set;
            rows[DAMAGES][month] = damages;
            rows[NET][month] = work + materials + book.advanced() + adjusted - retained - recovered - set - damages;
        }

        private void reckonCertified(Book book, int month) {
            long certified = of(NET, month) - ahead(TOTAL, month);
            if (certified < 0 && month < book.closed) {
                certified = 0;
            }
            rows[CERTIFIED][month] = certified;
            rows[TOTAL][month] = ahead(TOTAL, month) + certified;
        }

        /** Apart from the rest, since payments change nothing that is CERTIFIED. */
        void reckonDebt(Terms clauses, long[] paid) {
            int grace = clauses.of(Terms.GRACE);
            for (int month = 0; month < MONTHS && month < paid.length; month++) {
                rows[ALL_PAID][month] = ahead(ALL_PAID, month) + paid[month];
                long ripe = month >= grace && grace >= 0 ? of(TOTAL, month - grace) : 0;
                rows[OWED][month] = Math.max(0, ripe - of(ALL_PAID, month));
                rows[INTEREST][month] = thousandths(clauses.of(Terms.LATE), of(OWED, month));
                rows[ALL_INTEREST][month] = ahead(ALL_INTEREST, month) + of(INTEREST, month);
            }
        }
    }

    /** The ROW: five numbers at most. */
    private static final class Row {
        private static final int MOST_NUMBERS = 5;
        final long[] numbers = new long[MOST_NUMBERS];
        int size = 0;

        Row start(long number) {
            size = 0;
            return then(number);
        }

        Row then(long number) {
            if (size < MOST_NUMBERS) {
                numbers[size] = number;
                size++;
            }
            return this;
        }
    }
}
