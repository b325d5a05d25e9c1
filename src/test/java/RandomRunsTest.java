import java.util.Random;

/**
 * Runs of calls, always the same ones, on WorksDesk and on PlainDesk: each answer, the ROW, all counts and now and
 * then all amounts must be the same.
 */
public final class RandomRunsTest {
    private static final int RUNS = 240;
    private static final int CALLS = 120;
    private static final int KINDS_OF_CALLS = 46;
    private static int wrong = 0;

    private final Random random;
    private final WorksDesk desk = new WorksDesk();
    private final PlainDesk plain = new PlainDesk();
    private final StringBuilder told = new StringBuilder();
    /** A small desk has small numbers, so that equal ones and the edges are met often. */
    private final boolean small;

    private RandomRunsTest(int seed) {
        random = new Random(seed);
        small = seed % 2 == 0;
    }

    public static void main(String[] args) {
        for (int seed = 0; seed < RUNS && wrong == 0; seed++) {
            new RandomRunsTest(seed).run();
        }
        System.out.println("RandomRunsTest: " + RUNS + " runs, " + wrong + " wrong");
        if (wrong != 0) {
            System.exit(1);
        }
    }

    private void run() {
        newBill();
        if (random.nextInt(3) > 0) {
            fill();
        }
        for (int i = 0; i < CALLS && wrong == 0; i++) {
            if (random.nextInt(60) == 0) {
                newBill();
            }
            call(random.nextInt(KINDS_OF_CALLS));
            compareState(random.nextInt(12) == 0);
        }
        compareState(true);
    }

    /** Much is told ahead, so that the questions have something to ask about. */
    private void fill() {
        for (int i = 0; i < 40; i++) {
            call(3 + random.nextInt(16));
        }
        for (int item = 0; item < 4; item++) {
            measureOnwards(item);
        }
    }

    private void measureOnwards(int item) {
        int done = 0;
        for (int month = random.nextInt(4); month < 24; month += 1 + random.nextInt(4)) {
            int more = random.nextInt(small ? 4 : 150) - (random.nextInt(4) == 0 ? 30 : 0);
            done = Math.max(0, Math.min(1999, done + more));
            same("measures", desk.measures(month, item, done), plain.measures(month, item, done));
        }
    }

    private void newBill() {
        int items = random.nextInt(12);
        StringBuilder text = new StringBuilder();
        for (int i = 0; i < items; i++) {
            text.append(i == 0 ? "" : ";").append(random.nextInt(5)).append(':').append(number()).append('*');
            text.append(number());
        }
        if (random.nextInt(3) == 0 && text.length() > 0) {
            text.setCharAt(random.nextInt(text.length()), "0123456789:;*x5".charAt(random.nextInt(15)));
        }
        if (random.nextInt(6) == 0) {
            text.setLength(random.nextInt(text.length() + 1));
        }
        told.append(" bill ").append(text);
        for (int at = 0; at < text.length(); at += 4) {
            int four = 0;
            for (int i = at; i < at + 4; i++) {
                four = four << 8 | (i < text.length() ? text.charAt(i) : 0);
            }
            same("sign", desk.sign(four), plain.sign(four));
        }
        same("end", desk.end(text.length()) ? 1 : 0, plain.end(text.length()) ? 1 : 0);
        same("bill", desk.bill(), plain.bill());
    }

    private int number() {
        return random.nextInt(20) == 0 ? 0 : 1 + random.nextInt(small ? 9 : 999);
    }

    private int month() {
        return random.nextInt(25) == 0 ? edge(0, 23) : random.nextInt(24);
    }

    private int edge(int least, int most) {
        int[] edges = {least, most, least - 1, most + 1, Integer.MIN_VALUE, Integer.MAX_VALUE};
        return edges[random.nextInt(edges.length)];
    }

    private int within(int least, int most) {
        if (random.nextInt(12) == 0) {
            return edge(least, most);
        }
        int width = most - least + 1;
        return least + random.nextInt(small && random.nextInt(3) > 0 ? Math.min(width, 12) : width);
    }

    private void same(String call, long got, long due) {
        if (got != due && wrong == 0) {
            wrong++;
            System.out.println(told + ": " + call + " answered " + got + ", due is " + due);
        }
    }

    private void compareState(boolean all) {
        for (int what = -1; what <= 24; what++) {
            same("count(" + what + ")", desk.count(what), plain.count(what));
        }
        for (int i = 0; i < plain.count(6) && i < desk.count(6); i++) {
            same("row(" + i + ")", desk.row(i), plain.row(i));
        }
        if (all) {
            long[][] amounts = plain.amounts();
            for (int month = 0; month < 24; month++) {
                for (int what = 0; what < 15; what++) {
                    same("amount(" + month + ", " + what + ")", desk.amount(month, what), amounts[what][month]);
                }
            }
        }
    }

    private void call(int kind) {
        int a = month();
        int b;
        int c;
        switch (kind) {
            case 0: a = random.nextInt(); say("sign", a); same("sign", desk.sign(a), plain.sign(a)); break;
            case 1: a = within(0, 120); say("end", a); same("end", desk.end(a) ? 1 : 0, plain.end(a) ? 1 : 0); break;
            case 2: if (random.nextInt(20) == 0) { say("bill"); same("bill", desk.bill(), plain.bill()); } break;
            case 3: a = within(0, 13); b = within(0, new int[] {200, 1000, 6}[random.nextInt(3)]); say("terms", a, b);
                same("terms", desk.terms(a, b), plain.terms(a, b)); break;
            case 4: b = within(0, 9); c = within(0, 1999); say("measures", a, b, c);
                same("measures", desk.measures(a, b, c), plain.measures(a, b, c)); break;
            case 5: b = within(0, 9); say("strikes", a, b);
                same("strikes", desk.strikes(a, b), plain.strikes(a, b)); break;
            case 6: b = within(0, 99999); say("stores", a, b);
                same("stores", desk.stores(a, b), plain.stores(a, b)); break;
            case 7: b = within(0, 4); c = within(small ? -5 : -999, 999); int rate = within(0, 999);
                say("change", a, b, c, rate);
                same("change", desk.change(a, b, c, rate), plain.change(a, b, c, rate)); break;
            case 8: a = within(0, 7); b = within(small ? -5 : -999, 999); say("alters", a, b);
                same("alters", desk.alters(a, b), plain.alters(a, b)); break;
            case 9: b = within(1, small ? 200 : 99999); say("setsOff", a, b);
                same("setsOff", desk.setsOff(a, b), plain.setsOff(a, b)); break;
            case 10: b = within(0, 5); say("disputes", b, a);
                same("disputes", desk.disputes(b, a), plain.disputes(b, a)); break;
            case 11: b = within(0, 5); c = within(0, 1000); say("decides", b, a, c);
                same("decides", desk.decides(b, a, c), plain.decides(b, a, c)); break;
            case 12: say("handover", a); same("handover", desk.handover(a), plain.handover(a)); break;
            case 13: say("closes", a); same("closes", desk.closes(a), plain.closes(a)); break;
            case 14: b = within(0, 999999); say("pays", a, b); same("pays", desk.pays(a, b), plain.pays(a, b)); break;
            case 15: say("due", a); same("due", desk.due(a), plain.due(a)); break;
            case 16: a = within(1, 12); say("grants", a); same("grants", desk.grants(a), plain.grants(a)); break;
            case 17: b = within(500, 2000); say("indexes", a, b);
                same("indexes", desk.indexes(a, b), plain.indexes(a, b)); break;
            default: ask(kind, a);
        }
    }

    private void ask(int kind, int a) {
        int b;
        int c;
        switch (kind) {
            case 18: b = within(0, 9); say("item", a, b); same("item", desk.item(a, b), plain.item(a, b)); break;
            case 19: a = within(0, 7); say("priced", a); same("priced", desk.priced(a), plain.priced(a)); break;
            case 20: b = within(0, 5); say("held", b, a); same("held", desk.held(b, a), plain.held(b, a)); break;
            case 21: say("sum"); same("sum", desk.sum(), plain.sum()); break;
            case 22: say("lines", a); same("lines", desk.lines(a), plain.lines(a)); break;
            case 23: say("recovered"); same("recovered", desk.recovered(), plain.recovered()); break;
            case 24: say("limited"); same("limited", desk.limited(), plain.limited()); break;
            case 25: long v = small ? within(0, 999) : random.nextInt(30000000); say("reaches", (int) v);
                same("reaches", desk.reaches(v), plain.reaches(v)); break;
            case 26: say("worst"); same("worst", desk.worst(), plain.worst()); break;
            case 27: say("clears", a); same("clears", desk.clears(a), plain.clears(a)); break;
            case 28: b = within(1, 999999); say("paces", a, b);
                same("paces", desk.paces(a, b), plain.paces(a, b)); break;
            case 29: b = month(); say("enough", a, b); same("enough", desk.enough(a, b), plain.enough(a, b)); break;
            case 30: b = within(0, 9); c = within(0, 1999); say("shifts", a, b, c);
                same("shifts", desk.shifts(a, b, c), plain.shifts(a, b, c)); break;
            case 31: b = within(0, 5); say("were", b, a); same("were", desk.were(b, a), plain.were(b, a)); break;
            case 32: say("dearest"); same("dearest", desk.dearest(), plain.dearest()); break;
            case 33: a = within(0, 9); say("ends", a); same("ends", desk.ends(a), plain.ends(a)); break;
            case 34: say("leads", a); same("leads", desk.leads(a), plain.leads(a)); break;
            case 35: say("above", a); same("above", desk.above(a), plain.above(a)); break;
            case 36: a = within(0, 4); b = within(0, 999); say("like", a, b);
                same("like", desk.like(a, b), plain.like(a, b)); break;
            case 37: a = within(0, 13); b = within(0, new int[] {200, 1000, 6}[random.nextInt(3)]); say("would", a, b);
                same("would", desk.would(a, b), plain.would(a, b)); break;
            case 38: a = small ? within(1, 30) : within(1, 1000000); say("keeps", a);
                same("keeps", desk.keeps(a), plain.keeps(a)); break;
            case 39: say("overdue"); same("overdue", desk.overdue(), plain.overdue()); break;
            case 40: say("needed"); same("needed", desk.needed(), plain.needed()); break;
            case 41: b = within(500, 2000); say("rises", a, b);
                same("rises", desk.rises(a, b), plain.rises(a, b)); break;
            case 42: say("account"); same("account", desk.account(), plain.account()); break;
            case 43: a = plain.count(6); say("row", a);
                same("row throws", Check.throwsAtRow(desk, a) ? 1 : 0, 1); break;
            case 44: a = edge(0, 23); boolean no = a < 0 || a > 23; say("amount", a, 0);
                same("amount throws", Check.throwsAtAmount(desk, a, 0) ? 1 : 0, no ? 1 : 0); break;
            default: a = edge(0, 14); boolean none = a < 0 || a > 14; say("amount", 0, a);
                same("amount throws", Check.throwsAtAmount(desk, 0, a) ? 1 : 0, none ? 1 : 0); break;
        }
    }

    private void say(String call, int... arguments) {
        told.append(' ').append(call);
        for (int argument : arguments) {
            told.append(',').append(argument);
        }
    }
}
