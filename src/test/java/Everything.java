import java.util.ArrayList;
import java.util.List;

/**
 * All that can be learnt of a desk, as a list of answers. It takes several ways, each on a desk of its own, so that
 * no object is used for more than 512 calls, and since some ways tell the desk something to learn what was told.
 */
final class Everything {
    static final int THE_ROW = 0;
    static final int WAYS = 7;
    private static final int MONTHS = 24;

    private final WorksDesk desk;
    private final List<String> answers = new ArrayList<>();

    private Everything(WorksDesk desk) {
        this.desk = desk;
    }

    static List<String> of(WorksDesk desk, int way) {
        Everything all = new Everything(desk);
        switch (way) {
            case THE_ROW: all.row("the ROW"); break;
            case 1: all.counts(); break;
            case 2: all.amounts(); break;
            case 3: all.items(); break;
            case 4: all.changesAndSetOffs(); break;
            case 5: all.toldNumbers(); break;
            default: all.toldMonthsAndText(); break;
        }
        return all.answers;
    }

    private void note(String call, long answer) {
        answers.add(call + " = " + answer);
    }

    private void row(String call) {
        StringBuilder numbers = new StringBuilder(call).append(": the ROW");
        for (int i = 0; i < desk.count(6); i++) {
            numbers.append(' ').append(desk.row(i));
        }
        answers.add(numbers.toString());
    }

    /** The length of the ROW is left to the way that asks for the ROW. */
    private void counts() {
        for (int what = -1; what <= 24; what++) {
            if (what != 6) {
                note("count(" + what + ")", desk.count(what));
            }
        }
    }

    private void amounts() {
        for (int month = 0; month < MONTHS; month++) {
            for (int what = 0; what < 15; what++) {
                note("amount(" + month + ", " + what + ")", desk.amount(month, what));
            }
        }
    }

    private void items() {
        note("sum()", desk.sum());
        row("sum()");
        for (int item = 0; item < desk.count(0); item++) {
            note("item(0, " + item + ")", desk.item(0, item));
            row("item(0, " + item + ")");
            note("ends(" + item + ")", desk.ends(item));
        }
        for (int month = 0; month < MONTHS; month++) {
            note("above(" + month + ")", desk.above(month));
            row("above(" + month + ")");
            note("leads(" + month + ")", desk.leads(month));
        }
    }

    private void changesAndSetOffs() {
        for (int change = 0; change < desk.count(1); change++) {
            note("priced(" + change + ")", desk.priced(change));
            row("priced(" + change + ")");
        }
        for (int setOff = 0; setOff < desk.count(2); setOff++) {
            note("held(" + setOff + ", 23)", desk.held(setOff, 23));
            row("held(" + setOff + ", 23)");
        }
        for (int kind = 0; kind <= 4; kind++) {
            note("like(" + kind + ", 5)", desk.like(kind, 5));
            row("like(" + kind + ", 5)");
        }
    }

    /** Each MONTH gets a number of its own, so that the next one answers that number if nothing was told there. */
    private void toldNumbers() {
        for (int month = 0; month < MONTHS; month++) {
            for (int item = 0; item < desk.count(0); item++) {
                note("measures in " + month + " of " + item, desk.measures(month, item, 1900 + month));
            }
            note("stores in " + month, desk.stores(month, 90000 + month));
            note("indexes in " + month, desk.indexes(month, 1900 + month));
            note("pays in " + month, desk.pays(month, 990000 + month));
        }
    }

    private void toldMonthsAndText() {
        note("overdue()", desk.overdue());
        note("due", desk.due(23));
        note("grants", desk.grants(1));
        note("account()", desk.account());
        note("handover", desk.handover(0));
        note("closes", desk.closes(23));
        note("signs", desk.count(7));
        note("bill()", desk.bill());
        items();
        changesAndSetOffs();
    }
}
