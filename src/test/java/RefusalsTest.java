/**
 * "Refused calls answer NONE, or false, and change nothing but THE TEXT, which a call that reads it empties. NONE comes
 * ahead of other answers below 0, these in the order told; the ROW stays with each answer below 0 that tells of a
 * refusal or that there is none, and with calls that do not tell of it." Each refusal that a promise names, just
 * outside each bound, on a desk of which everything is compared with one that did not get the call.
 */
public final class RefusalsTest {
    private static final int MIN = Integer.MIN_VALUE;
    private static final int MAX = Integer.MAX_VALUE;
    private static final int[] NO_MONTHS = {-1, 24, MIN, MAX};
    private static final Twins FULL = new Twins(Stories::full);
    private static final Twins BEGUN = new Twins(Stories::begun);
    private static final Twins NEW = new Twins(desk -> { });

    public static void main(String[] args) {
        likenessSees();
        text();
        bill();
        terms();
        measuresAndStrikes();
        storesPaysAndIndexes();
        changes();
        setsOff();
        disputesAndDecides();
        handoverAndFinal();
        dueAndGrants();
        amountAndRow();
        months();
        firstMonths();
        payments();
        whatIf();
        itemsAndKinds();
        damagesAndAccount();
        newDesk();
        Check.end("RefusalsTest");
    }

    /** The likeness of two desks is worth something only if each small thing that is told makes them differ. */
    private static void likenessSees() {
        Twins.Call[] calls = {desk -> desk.terms(0, 121), desk -> desk.terms(13, 301), desk -> desk.measures(7, 0, 20),
            desk -> desk.strikes(3, 0), desk -> desk.stores(7, 99), desk -> desk.alters(7, 8), desk -> desk.disputes(0, 23),
            desk -> desk.decides(1, 23, 0), desk -> desk.handover(9), desk -> desk.closes(13), desk -> desk.pays(23, 1),
            desk -> desk.due(5), desk -> desk.indexes(3, 1100), desk -> desk.end(4) ? 1 : 0, desk -> desk.sign(0),
            desk -> desk.bill()};
        for (int i = 0; i < calls.length; i++) {
            Twins.Call call = calls[i];
            boolean seen = Twins.differ(Stories::full, desk -> {
                Stories.full(desk);
                call.on(desk);
            });
            Check.is("a desk that was told " + i + " more is another", seen, true);
        }
    }

    private static void text() {
        for (int signs = 117; signs <= 120; signs++) {
            String text = Stories.TEN_ITEMS + "0".repeat(signs - 99);
            Twins filled = new Twins(desk -> {
                Stories.full(desk);
                Check.text(desk, text);
            });
            filled.refused("sign behind " + signs, -1, desk -> desk.sign(0x30303030));
            filled.refused("end(" + (signs + 1) + ") of " + signs, 0, desk -> desk.end(text.length() + 1) ? 1 : 0);
        }
        for (int n : new int[] {-1, 6, 120, 121, MIN, MAX}) {
            FULL.refused("end(" + n + ") of 5", 0, desk -> desk.end(n) ? 1 : 0);
        }
        NEW.refused("end(1) of none", 0, desk -> desk.end(1) ? 1 : 0);
    }

    /** A refused BILL empties THE TEXT, and leaves all else, the ROW too. */
    private static void bill() {
        String[] texts = {"5:1*1", "0:0*1", "0:1*0", "0:1000*1", "0:1*1000", "0:1*1;", "0", Stories.TEN_ITEMS + ";0:1*1"};
        for (String text : texts) {
            Twins.same("a refused bill of " + text, desk -> {
                Stories.full(desk);
                Check.is("bill of " + text, Check.bill(desk, text) < 0, true);
            }, desk -> {
                Stories.full(desk);
                desk.end(0);
            });
        }
    }

    private static void terms() {
        for (int term : new int[] {-1, 14, MIN, MAX}) {
            FULL.refused("terms(" + term + ", 0)", -1, desk -> desk.terms(term, 0));
            FULL.refused("would(" + term + ", 0)", -1, desk -> desk.would(term, 0));
        }
        for (int i = 0; i < 14; i++) {
            int term = i;
            for (int v : new int[] {-1, Stories.TERM_MOST[term] + 1, MIN, MAX}) {
                FULL.refused("terms(" + term + ", " + v + ")", -1, desk -> desk.terms(term, v));
                FULL.refused("would(" + term + ", " + v + ")", -1, desk -> desk.would(term, v));
            }
            FULL.refused("terms(" + term + ") as it is", -2, desk -> desk.terms(term, desk.count(10 + term)));
        }
    }

    private static void measuresAndStrikes() {
        for (int month : NO_MONTHS) {
            FULL.refused("measures in " + month, -1, desk -> desk.measures(month, 0, 40));
            FULL.refused("strikes in " + month, -1, desk -> desk.strikes(month, 0));
            FULL.refused("shifts in " + month, -1, desk -> desk.shifts(month, 0, 40));
        }
        for (int item : new int[] {-1, 3, 9, 10, MIN, MAX}) {
            FULL.refused("measures of " + item, -1, desk -> desk.measures(0, item, 40));
            FULL.refused("strikes of " + item, -1, desk -> desk.strikes(0, item));
            FULL.refused("shifts of " + item, -1, desk -> desk.shifts(0, item, 40));
        }
        for (int quantity : new int[] {-1, 2000, MIN, MAX}) {
            FULL.refused("measures as " + quantity, -1, desk -> desk.measures(0, 0, quantity));
            FULL.refused("shifts as " + quantity, -1, desk -> desk.shifts(0, 0, quantity));
        }
        FULL.refused("measures: just that is told", -2, desk -> desk.measures(3, 0, 20));
        FULL.refused("strikes: nothing is told", -2, desk -> desk.strikes(2, 0));
        FULL.refused("strikes: nothing is told of that ITEM", -2, desk -> desk.strikes(0, 1));
    }

    private static void storesPaysAndIndexes() {
        for (int month : NO_MONTHS) {
            FULL.refused("stores in " + month, -1, desk -> desk.stores(month, 1));
            FULL.refused("pays in " + month, -1, desk -> desk.pays(month, 1));
            FULL.refused("indexes in " + month, -1, desk -> desk.indexes(month, 1000));
            FULL.refused("rises in " + month, -1, desk -> desk.rises(month, 1000));
        }
        for (int v : new int[] {-1, 100000, MIN, MAX}) {
            FULL.refused("stores " + v, -1, desk -> desk.stores(0, v));
        }
        for (int v : new int[] {-1, 1000000, MIN, MAX}) {
            FULL.refused("pays " + v, -1, desk -> desk.pays(0, v));
        }
        for (int v : new int[] {0, 499, 2001, MIN, MAX}) {
            FULL.refused("indexes " + v, -1, desk -> desk.indexes(0, v));
            FULL.refused("rises " + v, -1, desk -> desk.rises(0, v));
        }
        FULL.refused("stores: just that is told", -2, desk -> desk.stores(4, 99));
        FULL.refused("pays: it is so", -2, desk -> desk.pays(2, 700));
        FULL.refused("pays: it is 0", -2, desk -> desk.pays(23, 0));
        FULL.refused("indexes: just that is told", -2, desk -> desk.indexes(6, 900));
    }

    private static void changes() {
        FULL.refused("a ninth CHANGE", -2, desk -> desk.change(0, 0, 1, 1));
        int[][] wrong = {{-1, 0, 1, 1}, {24, 0, 1, 1}, {MIN, 0, 1, 1}, {MAX, 0, 1, 1}, {0, -1, 1, 1}, {0, 5, 1, 1},
            {0, MIN, 1, 1}, {0, MAX, 1, 1}, {0, 0, 0, 1}, {0, 0, -1000, 1}, {0, 0, 1000, 1}, {0, 0, MIN, 1}, {0, 0, MAX, 1},
            {0, 0, 1, -1}, {0, 0, 1, 1000}, {0, 0, 1, MIN}, {0, 0, 1, MAX}, {0, 3, 1, -1}, {0, 3, 1, 1000}};
        for (int[] w : wrong) {
            String name = "change(" + w[0] + ", " + w[1] + ", " + w[2] + ", " + w[3] + ")";
            BEGUN.refused(name, -1, desk -> desk.change(w[0], w[1], w[2], w[3]));
            FULL.refused(name + " as a ninth", -1, desk -> desk.change(w[0], w[1], w[2], w[3]));
        }
        for (int change : new int[] {-1, 8, MIN, MAX}) {
            FULL.refused("alters " + change, -1, desk -> desk.alters(change, 1));
            FULL.refused("priced(" + change + ")", -1, desk -> desk.priced(change));
        }
        for (int quantity : new int[] {0, -1000, 1000, MIN, MAX}) {
            FULL.refused("alters to " + quantity, -1, desk -> desk.alters(0, quantity));
        }
        FULL.refused("alters: it is so", -2, desk -> desk.alters(7, -7));
        BEGUN.refused("alters without CHANGES", -1, desk -> desk.alters(0, 1));
        BEGUN.refused("priced without CHANGES", -1, desk -> desk.priced(0));
    }

    private static void setsOff() {
        FULL.refused("a seventh SET-OFF", -2, desk -> desk.setsOff(0, 1));
        int[][] wrong = {{-1, 1}, {24, 1}, {MIN, 1}, {MAX, 1}, {0, 0}, {0, -1}, {0, 100000}, {0, MIN}, {0, MAX}};
        for (int[] w : wrong) {
            BEGUN.refused("setsOff(" + w[0] + ", " + w[1] + ")", -1, desk -> desk.setsOff(w[0], w[1]));
            FULL.refused("setsOff(" + w[0] + ", " + w[1] + ") as a seventh", -1, desk -> desk.setsOff(w[0], w[1]));
        }
    }

    private static void disputesAndDecides() {
        for (int setOff : new int[] {-1, 6, MIN, MAX}) {
            FULL.refused("disputes " + setOff, -1, desk -> desk.disputes(setOff, 23));
            FULL.refused("decides " + setOff, -1, desk -> desk.decides(setOff, 23, 0));
            FULL.refused("held of " + setOff, -1, desk -> desk.held(setOff, 0));
            FULL.refused("were of " + setOff, -1, desk -> desk.were(setOff, 23));
        }
        for (int month : NO_MONTHS) {
            FULL.refused("disputes in " + month, -1, desk -> desk.disputes(0, month));
            FULL.refused("decides in " + month, -1, desk -> desk.decides(1, month, 0));
            FULL.refused("decides in " + month + ", not disputed", -1, desk -> desk.decides(0, month, 0));
            FULL.refused("held in " + month, -1, desk -> desk.held(0, month));
            FULL.refused("were in " + month, -1, desk -> desk.were(0, month));
        }
        for (int upheld : new int[] {-1, 1001, MIN, MAX}) {
            FULL.refused("decides " + upheld, -1, desk -> desk.decides(1, 5, upheld));
            FULL.refused("decides " + upheld + ", not disputed", -1, desk -> desk.decides(0, 5, upheld));
            FULL.refused("decides " + upheld + ", decided", -1, desk -> desk.decides(2, 7, upheld));
        }
        FULL.refused("disputes ahead of its own MONTH", -1, desk -> desk.disputes(0, 1));
        FULL.refused("were ahead of its own MONTH", -1, desk -> desk.were(0, 1));
        FULL.refused("disputes: it is disputed", -2, desk -> desk.disputes(1, 5));
        FULL.refused("disputes: it is disputed, from another MONTH", -2, desk -> desk.disputes(1, 3));
        FULL.refused("disputes: it is decided", -2, desk -> desk.disputes(2, 10));
        FULL.refused("disputes: it is disputed, ahead of its own MONTH", -1, desk -> desk.disputes(1, 2));
        FULL.refused("decides: it is not disputed", -2, desk -> desk.decides(0, 23, 500));
        FULL.refused("decides: it is not disputed, ahead of its own MONTH", -2, desk -> desk.decides(0, 0, 500));
        FULL.refused("decides: it is decided", -3, desk -> desk.decides(2, 7, 400));
        FULL.refused("decides: it is decided, in another MONTH", -3, desk -> desk.decides(2, 4, 0));
        FULL.refused("decides ahead of the dispute", -1, desk -> desk.decides(1, 4, 500));
        FULL.refused("decides ahead of the dispute, decided", -1, desk -> desk.decides(2, 3, 500));
    }

    private static void handoverAndFinal() {
        for (int month : NO_MONTHS) {
            FULL.refused("handover(" + month + ")", -1, desk -> desk.handover(month));
            FULL.refused("closes(" + month + ")", -1, desk -> desk.closes(month));
            BEGUN.refused("handover(" + month + ") as the first", -1, desk -> desk.handover(month));
            BEGUN.refused("closes(" + month + ") without HANDOVER", -1, desk -> desk.closes(month));
        }
        FULL.refused("handover: it is that", -2, desk -> desk.handover(8));
        FULL.refused("handover: FINAL would be ahead", -3, desk -> desk.handover(13));
        FULL.refused("handover: FINAL would be far ahead", -3, desk -> desk.handover(23));
        FULL.refused("closes: it is that", -2, desk -> desk.closes(12));
        FULL.refused("closes: HANDOVER would be behind", -3, desk -> desk.closes(7));
        FULL.refused("closes: HANDOVER would be far behind", -3, desk -> desk.closes(0));
        BEGUN.refused("closes(0): HANDOVER is not told", -3, desk -> desk.closes(0));
        BEGUN.refused("closes(23): HANDOVER is not told", -3, desk -> desk.closes(23));
    }

    private static void dueAndGrants() {
        for (int month : NO_MONTHS) {
            FULL.refused("due(" + month + ")", -1, desk -> desk.due(month));
            BEGUN.refused("due(" + month + ") as the first", -1, desk -> desk.due(month));
        }
        FULL.refused("due: it is that", -2, desk -> desk.due(4));
        for (int n : new int[] {0, -1, 13, MIN, MAX}) {
            FULL.refused("grants(" + n + ")", -1, desk -> desk.grants(n));
            BEGUN.refused("grants(" + n + ") without DUE", -1, desk -> desk.grants(n));
        }
        for (int n : new int[] {1, 12}) {
            FULL.refused("grants(" + n + "): 12 are GRANTED", -3, desk -> desk.grants(n));
            BEGUN.refused("grants(" + n + "): DUE is not told", -2, desk -> desk.grants(n));
        }
    }

    private static void amountAndRow() {
        for (int month : NO_MONTHS) {
            FULL.refused("amount in " + month + " throws", 1, desk -> Check.throwsAtAmount(desk, month, 0) ? 1 : 0);
        }
        for (int what : new int[] {-1, 15, MIN, MAX}) {
            FULL.refused("amount " + what + " throws", 1, desk -> Check.throwsAtAmount(desk, 0, what) ? 1 : 0);
        }
        for (int i : new int[] {-1, 5, MIN, MAX}) {
            FULL.refused("row(" + i + ") of five throws", 1, desk -> Check.throwsAtRow(desk, i) ? 1 : 0);
            BEGUN.refused("row(" + i + ") of four throws", 1, desk -> Check.throwsAtRow(desk, i) ? 1 : 0);
        }
        BEGUN.refused("row(4) of four throws", 1, desk -> Check.throwsAtRow(desk, 4) ? 1 : 0);
        for (int what : new int[] {-1, 24, MIN, MAX}) {
            FULL.refused("count(" + what + ")", -1, desk -> desk.count(what));
        }
    }

    private static void months() {
        for (int month : NO_MONTHS) {
            FULL.refused("item in " + month, -1, desk -> desk.item(month, 0));
            FULL.refused("lines(" + month + ")", -1, desk -> desk.lines(month));
            FULL.refused("clears(" + month + ")", -1, desk -> desk.clears(month));
            FULL.refused("paces in " + month, -1, desk -> desk.paces(month, 1));
            FULL.refused("enough from " + month, -1, desk -> desk.enough(month, 23));
            FULL.refused("enough by " + month, -1, desk -> desk.enough(0, month));
            FULL.refused("leads(" + month + ")", -1, desk -> desk.leads(month));
            FULL.refused("above(" + month + ")", -1, desk -> desk.above(month));
        }
        for (int item : new int[] {-1, 3, 10, MIN, MAX}) {
            FULL.refused("item of " + item, -1, desk -> desk.item(0, item));
            FULL.refused("ends(" + item + ")", -1, desk -> desk.ends(item));
        }
    }

    private static void firstMonths() {
        BEGUN.refused("recovered(): none", -2, desk -> desk.recovered());
        BEGUN.refused("limited(): none", -2, desk -> desk.limited());
        for (long v : new long[] {0, -1, Long.MIN_VALUE}) {
            FULL.refused("reaches(" + v + ")", -1, desk -> desk.reaches(v));
        }
        FULL.refused("reaches: none", -2, desk -> desk.reaches(Long.MAX_VALUE));
        FULL.refused("reaches: none, above an int", -2, desk -> desk.reaches(1L << 32 | 1));
    }

    private static void payments() {
        for (int v : new int[] {0, -1, 1000000, MIN, MAX}) {
            FULL.refused("paces by " + v, -1, desk -> desk.paces(0, v));
        }
        FULL.refused("enough by an earlier MONTH", -1, desk -> desk.enough(1, 0));
        FULL.refused("enough by an earlier MONTH at the end", -1, desk -> desk.enough(23, 22));
        FULL.refused("paces: none", -2, desk -> desk.paces(23, 1));
        Twins dear = new Twins(desk -> {
            Check.bill(desk, "0:999*999;0:999*999");
            desk.measures(0, 0, 999);
            desk.measures(0, 1, 999);
            desk.sum();
        });
        dear.refused("enough: by none", -2, desk -> desk.enough(1, 1));
    }

    private static void whatIf() {
        BEGUN.refused("dearest(): no SET-OFFS", -2, desk -> desk.dearest());
        Twins disputed = new Twins(desk -> {
            Stories.full(desk);
            desk.disputes(0, 9);
            desk.disputes(3, 9);
            desk.disputes(5, 9);
        });
        disputed.refused("dearest(): all are disputed", -2, desk -> desk.dearest());
        BEGUN.refused("were without SET-OFFS", -1, desk -> desk.were(0, 0));
        BEGUN.refused("held without SET-OFFS", -1, desk -> desk.held(0, 0));
        for (int v : new int[] {0, -1, MIN}) {
            FULL.refused("keeps(" + v + ")", -1, desk -> desk.keeps(v));
        }
        FULL.refused("keeps: by none", -2, desk -> desk.keeps(MAX));
    }

    private static void itemsAndKinds() {
        BEGUN.refused("ends: nothing is told", -2, desk -> desk.ends(0));
        FULL.refused("ends: it goes on by less", -3, desk -> desk.ends(0));
        Twins none = new Twins(desk -> {
            Stories.full(desk);
            Check.bill(desk, "");
        });
        none.refused("leads without ITEMS", -2, desk -> desk.leads(23));
        none.refused("leads(24) without ITEMS", -1, desk -> desk.leads(24));
        none.refused("item without ITEMS", -1, desk -> desk.item(0, 0));
        none.refused("ends without ITEMS", -1, desk -> desk.ends(0));
        for (int kind : new int[] {-1, 5, MIN, MAX}) {
            FULL.refused("like of " + kind, -1, desk -> desk.like(kind, 1));
        }
        for (int rate : new int[] {-1, 1000, MIN, MAX}) {
            FULL.refused("like at " + rate, -1, desk -> desk.like(0, rate));
            FULL.refused("like at " + rate + " without like ITEMS", -1, desk -> desk.like(4, rate));
        }
    }

    private static void damagesAndAccount() {
        BEGUN.refused("overdue(): DUE is not told", -2, desk -> desk.overdue());
        BEGUN.refused("needed(): DUE is not told", -2, desk -> desk.needed());
        BEGUN.refused("account(): FINAL is not told", -2, desk -> desk.account());
        Twins handedOver = new Twins(desk -> {
            Stories.begun(desk);
            desk.handover(3);
        });
        handedOver.refused("account(): HANDOVER alone is told", -2, desk -> desk.account());
    }

    /** Nothing is told of a new desk: what is asked of something told is refused. */
    private static void newDesk() {
        NEW.refused("new: measures", -1, desk -> desk.measures(0, 0, 0));
        NEW.refused("new: strikes", -1, desk -> desk.strikes(0, 0));
        NEW.refused("new: alters", -1, desk -> desk.alters(0, 1));
        NEW.refused("new: disputes", -1, desk -> desk.disputes(0, 0));
        NEW.refused("new: decides", -1, desk -> desk.decides(0, 0, 0));
        NEW.refused("new: closes", -3, desk -> desk.closes(0));
        NEW.refused("new: pays 0", -2, desk -> desk.pays(0, 0));
        NEW.refused("new: grants", -2, desk -> desk.grants(1));
        NEW.refused("new: item", -1, desk -> desk.item(0, 0));
        NEW.refused("new: priced", -1, desk -> desk.priced(0));
        NEW.refused("new: held", -1, desk -> desk.held(0, 0));
        NEW.refused("new: shifts", -1, desk -> desk.shifts(0, 0, 0));
        NEW.refused("new: were", -1, desk -> desk.were(0, 0));
        NEW.refused("new: dearest", -2, desk -> desk.dearest());
        NEW.refused("new: ends", -1, desk -> desk.ends(0));
        NEW.refused("new: leads", -2, desk -> desk.leads(0));
        NEW.refused("new: reaches", -2, desk -> desk.reaches(1));
        NEW.refused("new: limited", -2, desk -> desk.limited());
        NEW.refused("new: keeps", -2, desk -> desk.keeps(1));
        NEW.refused("new: overdue", -2, desk -> desk.overdue());
        NEW.refused("new: needed", -2, desk -> desk.needed());
        NEW.refused("new: account", -2, desk -> desk.account());
        NEW.refused("new: row(0) throws", 1, desk -> Check.throwsAtRow(desk, 0) ? 1 : 0);
    }
}
