/** Promises 20 to 25: months. The numbers due are worked out by hand. */
public final class MonthsTest {
    public static void main(String[] args) {
        amountsOfWork();
        amountsFromHandoverOn();
        amountsBelowZero();
        setOffsInAmounts();
        owedAndInterest();
        damages();
        adjusted();
        amountThrows();
        item();
        priced();
        held();
        sum();
        lines();
        Check.end("MonthsTest");
    }

    /** SUM 2330, ADVANCED 233, LIMIT 116, START 466; ITEM 2 has CAP 11 and is cheap at 29. */
    static WorksDesk works() {
        WorksDesk desk = Check.desk("0:100*10;1:50*20;1:10*33");
        desk.measures(0, 0, 40);
        desk.measures(1, 1, 30);
        desk.measures(2, 2, 14);
        desk.measures(3, 0, 20);
        return desk;
    }

    static void amounts(String call, WorksDesk desk, int what, long... due) {
        for (int month = 0; month < due.length; month++) {
            Check.is(call + ": amount(" + month + ", " + what + ")", desk.amount(month, what), due[month]);
        }
    }

    private static void amountsOfWork() {
        WorksDesk desk = works();
        amounts("works", desk, 0, 400, 1000, 1450, 1250, 1250);
        amounts("works", desk, 1, 0, 0, 0, 0);
        amounts("works", desk, 3, 40, 100, 116, 116);
        amounts("works", desk, 4, 0, 133, 233, 233);
        amounts("works", desk, 6, 593, 1000, 1334, 1134);
        amounts("works", desk, 7, 593, 407, 334, 0, 0);
        amounts("works", desk, 8, 593, 1000, 1334, 1334, 1334);
        desk.change(1, 1, 4, 999);
        desk.change(2, 4, -10, 7);
        amounts("changed", desk, 1, 0, 4 * 22, 4 * 22 - 70, 18);
        amounts("changed", desk, 0, 400, 1088, 1468, 1268);
    }

    private static void amountsFromHandoverOn() {
        WorksDesk desk = works();
        desk.stores(1, 555);
        desk.stores(3, 99);
        amounts("stored", desk, 2, 0, 444, 444, 79, 79);
        desk.terms(2, 333);
        desk.handover(4);
        desk.closes(6);
        amounts("handed over", desk, 2, 0, 444, 444, 79, 0, 0, 0);
        amounts("handed over", desk, 3, 40, 100, 116, 116, 116 - 38, 78, 0, 0);
        amounts("handed over", desk, 4, 0, 133, 233, 233, 233, 233, 233);
        amounts("handed over", desk, 6, 593, 1444, 1778, 1213, 1172, 1172, 1250, 1250);
        amounts("handed over", desk, 7, 593, 851, 334, 0, 0, 0, 1250 - 1778, 0);
        amounts("handed over", desk, 8, 593, 1444, 1778, 1778, 1778, 1778, 1250, 1250);
        desk.terms(5, 1000);
        amounts("RECOVER 1000: nothing below START", desk, 4, 0, 233, 233);
        desk.strikes(2, 2);
        desk.terms(5, 0);
        amounts("recovered at FINAL", desk, 4, 0, 0, 0, 0, 0, 0, 233, 233);
    }

    private static void amountsBelowZero() {
        WorksDesk desk = Check.desk("0:100*10");
        desk.change(1, 3, -30, 9);
        amounts("below 0", desk, 0, 0, -270, -270);
        amounts("below 0", desk, 3, 0, 0, 0);
        amounts("below 0", desk, 4, 0, 0, 0);
        amounts("below 0", desk, 6, 100, -170);
        amounts("below 0", desk, 7, 100, 0, 0);
        desk.handover(2);
        desk.closes(3);
        amounts("below 0, FINAL", desk, 6, 100, -170, -170, -270, -270);
        amounts("below 0, FINAL", desk, 7, 100, 0, 0, -370, 0);
        amounts("below 0, FINAL", desk, 8, 100, 100, 100, -270, -270);
        amounts("below 0, FINAL", desk, 9, 0, 100, 100, 100, 0, 0);
    }

    private static void setOffsInAmounts() {
        WorksDesk desk = Check.desk("0:100*10");
        desk.measures(0, 0, 50);
        desk.measures(2, 0, 100);
        desk.setsOff(1, 100);
        desk.disputes(0, 3);
        desk.decides(0, 5, 400);
        desk.handover(6);
        desk.closes(7);
        amounts("set off", desk, 5, 0, 100, 100, 0, 0, 40, 40, 40);
        amounts("set off", desk, 6, 475, 375, 850, 950, 950, 910, 935, 960);
        amounts("set off", desk, 7, 475, 0, 375, 100, 0, 0, 0, 10, 0);
        amounts("set off", desk, 8, 475, 475, 850, 950, 950, 950, 950, 960, 960);
    }

    private static void owedAndInterest() {
        WorksDesk desk = works();
        desk.pays(2, 700);
        amounts("owed", desk, 9, 0, 593, 300, 634, 634);
        amounts("owed", desk, 10, 0, 5, 3, 6, 6);
        amounts("owed", desk, 11, 0, 5, 8, 14, 20);
        amounts("owed", desk, 12, 0, 0, 700, 700);
        Check.is("all INTEREST", desk.amount(23, 11), 5 + 3 + 21 * 6);
        desk.terms(8, 0);
        amounts("GRACE 0", desk, 9, 593, 1000, 634, 634);
        desk.terms(8, 6);
        amounts("GRACE 6", desk, 9, 0, 0, 0, 0, 0, 0, 0, 300, 634);
        desk.terms(7, 100);
        amounts("LATE 100", desk, 10, 0, 0, 0, 0, 0, 0, 0, 30, 63);
    }

    /** SUM 1234: a MONTH costs 40, 185 at most. */
    private static void damages() {
        WorksDesk desk = Check.desk("0:2*617");
        desk.terms(11, 33);
        desk.terms(12, 150);
        amounts("DUE not told", desk, 13, 0, 0, 0, 0, 0, 0);
        desk.due(3);
        amounts("due", desk, 13, 0, 0, 0, 0, 40, 80, 120, 160, 185, 185);
        amounts("due", desk, 6, 123, 123, 123, 123, 83, 43, 3, -37, -62);
        desk.grants(1);
        amounts("granted", desk, 13, 0, 0, 0, 0, 0, 40, 80, 120, 160, 185);
        desk.handover(6);
        amounts("handed over", desk, 13, 0, 0, 0, 0, 0, 40, 80, 80, 80);
    }

    private static void adjusted() {
        WorksDesk desk = Check.desk("0:100*10");
        desk.measures(0, 0, 10);
        desk.measures(2, 0, 33);
        desk.measures(3, 0, 20);
        desk.indexes(1, 1100);
        amounts("FOLLOW 0", desk, 14, 0, 0, 0, 0);
        desk.terms(13, 500);
        amounts("adjusted", desk, 14, 0, 0, 11, 5, 5);
        amounts("adjusted", desk, 6, 190, 190, 376, 253);
        desk.indexes(0, 505);
        amounts("adjusted", desk, 14, -24, -24, -13, -19);
        desk.indexes(3, 2000);
        desk.terms(13, 1000);
        amounts("adjusted", desk, 14, -49, -49, -26, -156, -156);
    }

    private static void amountThrows() {
        WorksDesk desk = works();
        int[][] wrong = {{-1, 0}, {24, 0}, {0, -1}, {0, 15}, {Integer.MIN_VALUE, 0}, {0, Integer.MAX_VALUE}};
        for (int[] call : wrong) {
            Check.is("amount throws", Check.throwsAtAmount(desk, call[0], call[1]), true);
        }
        Check.is("amount(23, 14)", Check.throwsAtAmount(desk, 23, 14), false);
    }

    private static void item() {
        WorksDesk desk = works();
        Check.is("item(0, 0)", desk.item(0, 0), 40);
        Check.row("item(0, 0)", desk, 400, 400, 0);
        Check.is("item(1, 0)", desk.item(1, 0), 40);
        Check.row("item(1, 0)", desk, 400, 0, 0);
        Check.is("item(3, 0)", desk.item(3, 0), 20);
        Check.row("item(3, 0)", desk, 200, -200, 0);
        Check.is("item(2, 2)", desk.item(2, 2), 14);
        Check.row("item(2, 2)", desk, 11 * 33 + 3 * 29, 450, 1);
        Check.is("item(23, 2)", desk.item(23, 2), 14);
        Check.row("item(23, 2)", desk, 450, 0, 1);
        desk.measures(2, 2, 11);
        desk.item(2, 2);
        Check.row("DONE is CAP", desk, 363, 363, 0);
        desk.terms(9, 0);
        desk.item(2, 2);
        Check.row("ABOVE 0", desk, 359, 359, 1);
        desk.terms(10, 0);
        desk.item(2, 2);
        Check.row("CHEAP 0", desk, 330, 330, 1);
        int[][] wrong = {{-1, 0}, {24, 0}, {0, -1}, {0, 3}};
        for (int[] call : wrong) {
            Check.is("item, wrong", desk.item(call[0], call[1]), -1);
        }
    }

    private static void priced() {
        WorksDesk desk = works();
        desk.change(5, 1, -7, 3);
        desk.change(6, 2, 9, 3);
        Check.is("priced(0)", desk.priced(0), (1000 + 330) / 60);
        Check.row("priced(0)", desk, 5, 1, -7, -154, 2);
        Check.is("priced(1)", desk.priced(1), 3);
        Check.row("priced(1)", desk, 6, 2, 9, 27, 0);
        Check.is("priced(2)", desk.priced(2), -1);
        Check.is("priced(-1)", desk.priced(-1), -1);
    }

    private static void held() {
        WorksDesk desk = works();
        desk.setsOff(2, 333);
        Check.is("held ahead of it", desk.held(0, 1), 0);
        Check.is("held(0, 2)", desk.held(0, 2), 333);
        Check.row("held(0, 2)", desk, 2, 333, -1, -1, 0);
        desk.disputes(0, 4);
        Check.is("held ahead of the dispute", desk.held(0, 3), 333);
        Check.is("held in dispute", desk.held(0, 4), 0);
        Check.row("held in dispute", desk, 2, 333, 4, -1, 0);
        desk.decides(0, 6, 500);
        Check.is("held in dispute", desk.held(0, 5), 0);
        Check.is("held when decided", desk.held(0, 6), 166);
        Check.row("held when decided", desk, 2, 333, 4, 6, 500);
        int[][] wrong = {{-1, 0}, {1, 0}, {0, -1}, {0, 24}};
        for (int[] call : wrong) {
            Check.is("held, wrong", desk.held(call[0], call[1]), -1);
        }
    }

    private static void sum() {
        WorksDesk desk = works();
        Check.is("sum()", desk.sum(), 2330);
        Check.row("sum()", desk, 233, 116, 3, 2424);
        desk.terms(3, 300);
        desk.terms(1, 7);
        desk.handover(3);
        Check.is("sum()", desk.sum(), 2330);
        Check.row("sum()", desk, 699, 16, 3, 324);
        desk.closes(11);
        desk.sum();
        Check.row("sum()", desk, 699, 16, 3, 311);
    }

    private static void lines() {
        WorksDesk desk = works();
        desk.stores(0, 10);
        desk.stores(3, 5);
        desk.setsOff(3, 77);
        Check.is("lines(0)", desk.lines(0), 0);
        Check.row("lines(0)", desk, 400, 8, 40, 0, 0);
        Check.is("lines(2)", desk.lines(2), 0);
        Check.row("lines(2)", desk, 450, 0, 16, 100, 0);
        Check.is("lines(3)", desk.lines(3), 0);
        Check.row("lines(3)", desk, -200, -4, 0, 0, 77);
        Check.is("lines(23)", desk.lines(23), 0);
        Check.row("lines(23)", desk, 0, 0, 0, 0, 0);
        Check.is("lines(-1)", desk.lines(-1), -1);
        Check.is("lines(24)", desk.lines(24), -1);
    }
}
