import java.util.ArrayList;
import java.util.List;
import java.util.NoSuchElementException;
import java.util.TreeMap;
import java.util.regex.Pattern;

/**
 * The document once more, as plainly as can be: each amount is asked of what is told, a question "what if" is asked
 * of a copy. It is slow, and shares no line with WorksDesk; RandomRunsTest holds the two against each other.
 */
final class PlainDesk {
    private static final int[] MOST = {200, 200, 1000, 300, 500, 1000, 1000, 100, 6, 500, 1000, 50, 200, 1000};

    private List<int[]> items = new ArrayList<>();
    private int[] terms = {100, 50, 500, 100, 200, 250, 800, 10, 1, 150, 900, 0, 100, 0};
    private List<TreeMap<Integer, Integer>> measured = new ArrayList<>();
    private TreeMap<Integer, Integer> stored = new TreeMap<>();
    private TreeMap<Integer, Integer> index = new TreeMap<>();
    private TreeMap<Integer, Long> paid = new TreeMap<>();
    private List<int[]> changes = new ArrayList<>();
    /** MONTH, amount, MONTH of the dispute, of the decision (null each), upheld. */
    private List<Integer[]> setOffs = new ArrayList<>();
    private Integer handover;
    private Integer closing;
    private Integer due;
    private int granted;
    private String text = "";
    private List<Long> row = new ArrayList<>();

    private PlainDesk copy() {
        PlainDesk other = new PlainDesk();
        other.items = items;
        other.terms = terms.clone();
        for (TreeMap<Integer, Integer> told : measured) {
            other.measured.add(new TreeMap<>(told));
        }
        other.stored = new TreeMap<>(stored);
        other.index = new TreeMap<>(index);
        other.paid = new TreeMap<>(paid);
        other.changes = changes;
        for (Integer[] setOff : setOffs) {
            other.setOffs.add(setOff.clone());
        }
        other.handover = handover;
        other.closing = closing;
        other.due = due;
        other.granted = granted;
        return other;
    }

    private void tellRow(long... numbers) {
        row = new ArrayList<>();
        for (long number : numbers) {
            row.add(number);
        }
    }

    private static boolean in(long v, long least, long most) {
        return least <= v && v <= most;
    }

    private static boolean month(int m) {
        return in(m, 0, 23);
    }

    private static long thousandths(long n, long of) {
        long all = Math.abs(of) * n / 1000;
        return of < 0 ? -all : all;
    }

    private static int latest(TreeMap<Integer, Integer> told, int m, int without) {
        return told.floorKey(m) == null ? without : told.floorEntry(m).getValue();
    }

    private static boolean from(Integer month, int m) {
        return month != null && m >= month;
    }

    // ---- amounts

    private long total() {
        return items.stream().mapToLong(i -> (long) i[1] * i[2]).sum();
    }

    private long cap(int i) {
        return items.get(i)[1] + thousandths(terms[9], items.get(i)[1]);
    }

    private long part(int m, int i) {
        if (m < 0) {
            return 0;
        }
        long done = latest(measured.get(i), m, 0);
        long above = Math.max(0, done - cap(i));
        return (done - above) * items.get(i)[2] + above * thousandths(terms[10], items.get(i)[2]);
    }

    private long price(int kind, int rate) {
        long worth = items.stream().filter(i -> i[0] == kind).mapToLong(i -> (long) i[1] * i[2]).sum();
        long many = items.stream().filter(i -> i[0] == kind).mapToLong(i -> i[1]).sum();
        return many == 0 ? rate : worth / many;
    }

    private long varied(int m) {
        return changes.stream().filter(c -> c[0] <= m).mapToLong(c -> c[2] * price(c[1], c[3])).sum();
    }

    private long work(int m) {
        long work = m < 0 ? 0 : varied(m);
        for (int i = 0; i < items.size(); i++) {
            work += part(m, i);
        }
        return work;
    }

    private long materials(int m) {
        return m < 0 || from(handover, m) ? 0 : thousandths(terms[6], latest(stored, m, 0));
    }

    private long retained(int m) {
        if (m < 0 || from(closing, m)) {
            return 0;
        }
        long kept = work(m) < 0 ? 0 : thousandths(terms[0], work(m));
        long limited = Math.min(kept, thousandths(terms[1], total()));
        return from(handover, m) ? limited - thousandths(terms[2], limited) : limited;
    }

    private long advanced() {
        return thousandths(terms[3], total());
    }

    private long recoveredTill(int m) {
        if (m < 0) {
            return 0;
        }
        if (from(closing, m)) {
            return advanced();
        }
        long above = work(m) - thousandths(terms[4], total());
        long fresh = above < 0 ? 0 : Math.min(advanced(), thousandths(terms[5], above));
        return Math.max(fresh, recoveredTill(m - 1));
    }

    private long heldOf(Integer[] setOff, int m) {
        if (m < setOff[0]) {
            return 0;
        }
        if (from(setOff[3], m)) {
            return thousandths(setOff[4], setOff[1]);
        }
        return from(setOff[2], m) ? 0 : setOff[1];
    }

    private long set(int m) {
        return setOffs.stream().mapToLong(s -> heldOf(s, m)).sum();
    }

    private boolean late(int m) {
        return due != null && m > due + granted && (handover == null || m <= handover);
    }

    private long damages(int m) {
        long all = 0;
        for (int k = 0; k <= m; k++) {
            all += late(k) ? thousandths(terms[11], total()) : 0;
        }
        return Math.min(all, thousandths(terms[12], total()));
    }

    private long adjusted(int m) {
        long all = 0;
        for (int k = 0; k <= m; k++) {
            all += thousandths(terms[13], (work(k) - work(k - 1)) * (latest(index, k, 1000) - 1000) / 1000);
        }
        return all;
    }

    private long net(int m) {
        return work(m) + materials(m) + advanced() + adjusted(m) - retained(m) - recoveredTill(m) - set(m) - damages(m);
    }

    private long[] certified() {
        long[] certified = new long[24];
        long ahead = 0;
        for (int m = 0; m < 24; m++) {
            long fresh = net(m) - ahead;
            certified[m] = fresh < 0 && !from(closing, m) ? 0 : fresh;
            ahead += certified[m];
        }
        return certified;
    }

    private static long till(long[] all, int m) {
        long sum = 0;
        for (int k = 0; k <= m && k < all.length; k++) {
            sum += all[k];
        }
        return sum;
    }

    private long paidTill(int m) {
        return paid.headMap(m, true).values().stream().mapToLong(v -> v).sum();
    }

    private long[] owed() {
        long[] certified = certified();
        long[] owed = new long[24];
        for (int m = 0; m < 24; m++) {
            owed[m] = Math.max(0, till(certified, m - terms[8]) - paidTill(m));
        }
        return owed;
    }

    private long[] interest() {
        long[] interest = owed();
        for (int m = 0; m < 24; m++) {
            interest[m] = thousandths(terms[7], interest[m]);
        }
        return interest;
    }

    private long lastTotal() {
        return till(certified(), 23);
    }

    private long allInterest() {
        return till(interest(), 23);
    }

    // ---- what is told

    int sign(int v) {
        if (text.length() + 4 > 120) {
            return -1;
        }
        text += "" + (char) (v >>> 24) + (char) (v >> 16 & 255) + (char) (v >> 8 & 255) + (char) (v & 255);
        return text.length();
    }

    boolean end(int n) {
        if (!in(n, 0, text.length())) {
            return false;
        }
        text = text.substring(0, n);
        return true;
    }

    /** A text stands as far as some text that begins with it is a BILL; so the fault is the first sign behind that. */
    int bill() {
        String read = text;
        text = "";
        String number = "(?!0{1,3}(?!\\d))\\d{1,3}";
        String item = "[0-4]:" + number + "\\*" + number;
        if (!read.isEmpty() && !Pattern.matches("(?s)" + item + "(;" + item + "){0,9}", read)) {
            return -1 - fault(read);
        }
        items = new ArrayList<>();
        measured = new ArrayList<>();
        for (String one : read.isEmpty() ? new String[0] : read.split(";")) {
            String[] parts = one.split("[:*]");
            items.add(new int[] {Integer.parseInt(parts[0]), Integer.parseInt(parts[1]), Integer.parseInt(parts[2])});
            measured.add(new TreeMap<>());
        }
        stored = new TreeMap<>();
        index = new TreeMap<>();
        paid = new TreeMap<>();
        changes = new ArrayList<>();
        setOffs = new ArrayList<>();
        handover = null;
        closing = null;
        due = null;
        granted = 0;
        return items.size();
    }

    /** By states: 0 KIND, 1 the :, 2 QUANTITY, 3 RATE. */
    private static int fault(String read) {
        int state = 0;
        int many = 0;
        String digits = "";
        for (int p = 0; p < read.length(); p++) {
            char c = read.charAt(p);
            if (state == 0) {
                if (c < '0' || c > '4') {
                    return p;
                }
                state = 1;
                many++;
            } else if (state == 1) {
                if (c != ':') {
                    return p;
                }
                state = 2;
                digits = "";
            } else if (c >= '0' && c <= '9') {
                digits += c;
                if (digits.length() == 4) {
                    return p;
                }
            } else {
                if (digits.matches("0+")) {
                    return p - 1;
                }
                if (digits.isEmpty() || c != (state == 2 ? '*' : ';') || state == 3 && many == 10) {
                    return p;
                }
                state = state == 2 ? 3 : 0;
                digits = "";
            }
        }
        return state >= 2 && digits.matches("0+") ? read.length() - 1 : read.length();
    }

    private boolean term(int term, int v) {
        return in(term, 0, 13) && in(v, 0, MOST[term]);
    }

    int terms(int term, int v) {
        if (!term(term, v)) {
            return -1;
        }
        int was = terms[term];
        terms[term] = v;
        return was == v ? -2 : was;
    }

    private boolean item(int i) {
        return in(i, 0, items.size() - 1);
    }

    private static int tell(TreeMap<Integer, Integer> told, int m, int v, int without) {
        int was = latest(told, m, without);
        Integer there = told.put(m, v);
        return there != null && there == v ? -2 : was;
    }

    int measures(int m, int i, int quantity) {
        return month(m) && item(i) && in(quantity, 0, 1999) ? tell(measured.get(i), m, quantity, 0) : -1;
    }

    int strikes(int m, int i) {
        if (!month(m) || !item(i)) {
            return -1;
        }
        return measured.get(i).remove(m) == null ? -2 : latest(measured.get(i), m, 0);
    }

    int stores(int m, int v) {
        return month(m) && in(v, 0, 99999) ? tell(stored, m, v, 0) : -1;
    }

    int change(int m, int kind, int quantity, int rate) {
        if (!month(m) || !in(kind, 0, 4) || !in(Math.abs((long) quantity), 1, 999) || !in(rate, 0, 999)) {
            return -1;
        }
        if (changes.size() == 8) {
            return -2;
        }
        changes.add(new int[] {m, kind, quantity, rate});
        return changes.size() - 1;
    }

    int alters(int change, int quantity) {
        if (!in(change, 0, changes.size() - 1) || !in(Math.abs((long) quantity), 1, 999)) {
            return -1;
        }
        int was = changes.get(change)[2];
        changes.get(change)[2] = quantity;
        return was == quantity ? -2 : was;
    }

    int setsOff(int m, int amount) {
        if (!month(m) || !in(amount, 1, 99999)) {
            return -1;
        }
        if (setOffs.size() == 6) {
            return -2;
        }
        setOffs.add(new Integer[] {m, amount, null, null, 0});
        return setOffs.size() - 1;
    }

    private boolean dispute(int s, int m) {
        return in(s, 0, setOffs.size() - 1) && month(m) && m >= setOffs.get(s)[0];
    }

    int disputes(int s, int m) {
        if (!dispute(s, m)) {
            return -1;
        }
        if (setOffs.get(s)[2] != null) {
            return -2;
        }
        setOffs.get(s)[2] = m;
        return (int) setOffs.stream().filter(one -> one[2] != null && one[3] == null).count();
    }

    int decides(int s, int m, int upheld) {
        if (!in(s, 0, setOffs.size() - 1) || !month(m) || !in(upheld, 0, 1000)) {
            return -1;
        }
        Integer[] one = setOffs.get(s);
        if (one[2] == null) {
            return -2;
        }
        if (m < one[2]) {
            return -1;
        }
        if (one[3] != null) {
            return -3;
        }
        one[3] = m;
        one[4] = upheld;
        return (int) thousandths(upheld, one[1]);
    }

    private static int or24(Integer m) {
        return m == null ? 24 : m;
    }

    private static int orNone(Integer m) {
        return m == null ? -1 : m;
    }

    int handover(int m) {
        if (!month(m)) {
            return -1;
        }
        int was = or24(handover);
        if (was == m) {
            return -2;
        }
        if (closing != null && closing < m) {
            return -3;
        }
        handover = m;
        return was;
    }

    int closes(int m) {
        if (!month(m)) {
            return -1;
        }
        int was = or24(closing);
        if (was == m) {
            return -2;
        }
        if (handover == null || handover > m) {
            return -3;
        }
        closing = m;
        return was;
    }

    int pays(int m, int v) {
        if (!month(m) || !in(v, 0, 999999)) {
            return -1;
        }
        long was = paid.getOrDefault(m, 0L);
        paid.put(m, (long) v);
        return was == v ? -2 : (int) was;
    }

    int due(int m) {
        if (!month(m)) {
            return -1;
        }
        int was = or24(due);
        due = m;
        return was == m ? -2 : was;
    }

    int grants(int n) {
        if (!in(n, 1, 12)) {
            return -1;
        }
        if (due == null) {
            return -2;
        }
        if (granted + n > 12) {
            return -3;
        }
        granted += n;
        return granted;
    }

    int indexes(int m, int v) {
        return month(m) && in(v, 500, 2000) ? tell(index, m, v, 1000) : -1;
    }

    // ---- months

    /** All amounts at once, a row of MONTHS each. */
    long[][] amounts() {
        long[][] all = new long[15][24];
        long[] certified = certified();
        long[] owed = owed();
        long[] interest = interest();
        for (int m = 0; m < 24; m++) {
            long[] here = {work(m), varied(m), materials(m), retained(m), recoveredTill(m), set(m), net(m), certified[m],
                till(certified, m), owed[m], interest[m], till(interest, m), paidTill(m), damages(m), adjusted(m)};
            for (int what = 0; what < 15; what++) {
                all[what][m] = here[what];
            }
        }
        return all;
    }

    int item(int m, int i) {
        if (!month(m) || !item(i)) {
            return -1;
        }
        int done = latest(measured.get(i), m, 0);
        tellRow(part(m, i), part(m, i) - part(m - 1, i), done > cap(i) ? 1 : 0);
        return done;
    }

    int priced(int c) {
        if (!in(c, 0, changes.size() - 1)) {
            return -1;
        }
        int[] one = changes.get(c);
        long price = price(one[1], one[3]);
        tellRow(one[0], one[1], one[2], one[2] * price, items.stream().filter(i -> i[0] == one[1]).count());
        return (int) price;
    }

    int held(int s, int m) {
        if (!in(s, 0, setOffs.size() - 1) || !month(m)) {
            return -1;
        }
        Integer[] one = setOffs.get(s);
        tellRow(one[0], one[1], orNone(one[2]), orNone(one[3]), one[4]);
        return (int) heldOf(one, m);
    }

    int sum() {
        tellRow(advanced(), thousandths(terms[1], total()), items.size(), 100 * or24(handover) + or24(closing));
        return (int) total();
    }

    int lines(int m) {
        if (!month(m)) {
            return -1;
        }
        long setAhead = m == 0 ? 0 : set(m - 1);
        tellRow(work(m) - work(m - 1), materials(m) - materials(m - 1), retained(m) - retained(m - 1),
            recoveredTill(m) - recoveredTill(m - 1), set(m) - setAhead);
        return 0;
    }

    // ---- all months

    int recovered() {
        for (int m = 0; m < 24; m++) {
            if (recoveredTill(m) == advanced()) {
                return m;
            }
        }
        return -2;
    }

    int limited() {
        for (int m = 0; m < 24 && !from(handover, m); m++) {
            if (retained(m) > 0 && retained(m) == thousandths(terms[1], total())) {
                return m;
            }
        }
        return -2;
    }

    int reaches(long v) {
        if (v < 1) {
            return -1;
        }
        long[] certified = certified();
        for (int m = 0; m < 24; m++) {
            if (till(certified, m) >= v) {
                tellRow(till(certified, m));
                return m;
            }
        }
        return -2;
    }

    int worst() {
        long[] owed = owed();
        int worst = 0;
        long many = 0;
        for (int m = 23; m >= 0; m--) {
            worst = owed[m] >= owed[worst] ? m : worst;
            many += owed[m] > 0 ? 1 : 0;
        }
        for (int m = 23; m >= 0; m--) {
            worst = owed[m] >= owed[worst] ? m : worst;
        }
        tellRow(owed[worst], many);
        return worst;
    }

    int clears(int m) {
        if (!month(m)) {
            return -1;
        }
        long more = owed()[m];
        PlainDesk other = copy();
        other.paid.merge(m, more, Long::sum);
        tellRow(more, other.allInterest());
        return 0;
    }

    int paces(int month, int v) {
        if (!month(month) || !in(v, 1, 999999)) {
            return -1;
        }
        PlainDesk other = copy();
        for (int m = month; m < 24; m++) {
            other.paid.put(m, (long) v);
        }
        long[] owed = other.owed();
        for (int m = month; m < 24; m++) {
            if (owed[m] == 0) {
                tellRow(other.allInterest());
                return m;
            }
        }
        return -2;
    }

    int enough(int month, int by) {
        if (!month(month) || !month(by) || by < month) {
            return -1;
        }
        if (!pacesBy(month, 999999, by)) {
            return -2;
        }
        int least = 1;
        int most = 999999;
        while (least < most) {
            int middle = (least + most) / 2;
            if (pacesBy(month, middle, by)) {
                most = middle;
            } else {
                least = middle + 1;
            }
        }
        tellRow(least);
        return 0;
    }

    private boolean pacesBy(int month, int v, int by) {
        return in(copy().paces(month, v), month, by);
    }

    int shifts(int m, int i, int quantity) {
        PlainDesk other = copy();
        if (other.measures(m, i, quantity) == -1) {
            return -1;
        }
        long[] ours = certified();
        long[] theirs = other.certified();
        long first = -1;
        long more = 0;
        int many = 0;
        for (int k = 0; k < 24; k++) {
            if (ours[k] != theirs[k] && many++ == 0) {
                first = k;
                more = theirs[k] - ours[k];
            }
        }
        tellRow(first, more, other.lastTotal() - lastTotal());
        return many;
    }

    private PlainDesk disputed(int s, int m) {
        PlainDesk other = copy();
        other.setOffs.get(s)[2] = m;
        other.setOffs.get(s)[3] = null;
        return other;
    }

    private int tellMore(PlainDesk other) {
        tellRow(other.lastTotal() - lastTotal(), other.allInterest() - allInterest());
        return 0;
    }

    int were(int s, int m) {
        return dispute(s, m) ? tellMore(disputed(s, m)) : -1;
    }

    int dearest() {
        int dearest = -2;
        long greatest = 0;
        for (int s = setOffs.size() - 1; s >= 0; s--) {
            if (setOffs.get(s)[2] == null) {
                long interest = disputed(s, setOffs.get(s)[0]).allInterest();
                if (dearest == -2 || interest >= greatest) {
                    greatest = interest;
                    dearest = s;
                }
            }
        }
        if (dearest >= 0) {
            tellRow(greatest);
        }
        return dearest;
    }

    int ends(int i) {
        if (!item(i)) {
            return -1;
        }
        TreeMap<Integer, Integer> told = measured.get(i);
        int quantity = items.get(i)[1];
        for (int m = 0; m < 24; m++) {
            if (latest(told, m, 0) >= quantity) {
                tellRow(0);
                return m;
            }
        }
        if (told.isEmpty()) {
            return -2;
        }
        int last = told.lastKey();
        int done = told.get(last);
        Integer ahead = told.lowerKey(last);
        int pace = ahead == null ? done : (done - told.get(ahead)) / (last - ahead);
        if (pace <= 0) {
            return -3;
        }
        tellRow(pace);
        int m = last;
        while (done < quantity) {
            m++;
            done += pace;
        }
        return m;
    }

    int leads(int m) {
        if (!month(m)) {
            return -1;
        }
        int leader = -2;
        long most = 0;
        for (int i = 0; i < items.size(); i++) {
            long more = part(m, i) - part(m - 1, i);
            if (leader < 0 || more > most) {
                leader = i;
                most = more;
            }
        }
        if (leader >= 0) {
            tellRow(most);
        }
        return leader;
    }

    int above(int m) {
        if (!month(m)) {
            return -1;
        }
        int[] bits = new int[3];
        for (int i = 0; i < items.size(); i++) {
            int done = latest(measured.get(i), m, 0);
            bits[0] |= done > items.get(i)[1] ? 1 << i : 0;
            bits[1] |= done > cap(i) ? 1 << i : 0;
            bits[2] |= done < latest(measured.get(i), m - 1, 0) ? 1 << i : 0;
        }
        tellRow(bits[1], bits[2]);
        return bits[0];
    }

    int like(int kind, int rate) {
        if (!in(kind, 0, 4) || !in(rate, 0, 999)) {
            return -1;
        }
        int bits = 0;
        for (int i = 0; i < items.size(); i++) {
            bits |= items.get(i)[0] == kind ? 1 << i : 0;
        }
        tellRow(bits, items.stream().filter(i -> i[0] == kind).mapToInt(i -> i[2]).min().orElse(0),
            items.stream().filter(i -> i[0] == kind).mapToInt(i -> i[2]).max().orElse(0));
        return (int) price(kind, rate);
    }

    int would(int term, int v) {
        PlainDesk other = copy();
        return other.terms(term, v) == -1 ? -1 : tellMore(other);
    }

    int keeps(int v) {
        if (v < 1) {
            return -1;
        }
        PlainDesk other = copy();
        for (int keep = 0; keep <= 200; keep++) {
            other.terms[0] = keep;
            long greatest = 0;
            for (int m = 0; m < 24; m++) {
                greatest = Math.max(greatest, other.retained(m));
            }
            if (greatest >= v) {
                tellRow(greatest);
                return keep;
            }
        }
        return -2;
    }

    int overdue() {
        if (due == null) {
            return -2;
        }
        int many = 0;
        int first = -1;
        for (int m = 23; m >= 0; m--) {
            many += late(m) ? 1 : 0;
            first = damages(m) > 0 && damages(m) == thousandths(terms[12], total()) ? m : first;
        }
        tellRow(damages(23), first);
        return many;
    }

    int needed() {
        if (due == null) {
            return -2;
        }
        for (int n = 0;; n++) {
            PlainDesk other = copy();
            other.due = due + n;
            if (other.damages(23) == 0) {
                tellRow(other.lastTotal() - lastTotal());
                return n;
            }
        }
    }

    int rises(int m, int v) {
        PlainDesk other = copy();
        if (other.indexes(m, v) == -1) {
            return -1;
        }
        tellRow(other.lastTotal() - lastTotal(), other.adjusted(23) - adjusted(23));
        return 0;
    }

    // ---- the final account

    int account() {
        if (closing == null) {
            return -2;
        }
        long paidThen = paidTill(closing);
        tellRow(work(closing), set(closing), paidThen, till(certified(), closing) - paidThen, till(interest(), closing));
        return 0;
    }

    int count(int what) {
        if (in(what, 10, 23)) {
            return terms[what - 10];
        }
        if (!in(what, 0, 9)) {
            return -1;
        }
        long months = measured.stream().flatMap(told -> told.keySet().stream()).distinct().count();
        int[] all = {items.size(), changes.size(), setOffs.size(), orNone(handover), orNone(closing), (int) months,
            row.size(), text.length(), due == null ? -1 : due + granted, granted};
        return all[what];
    }

    long row(int i) throws NoSuchElementException {
        if (!in(i, 0, row.size() - 1)) {
            throw new NoSuchElementException();
        }
        return row.get(i);
    }
}
