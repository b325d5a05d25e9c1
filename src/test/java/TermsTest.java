/**
 * The document's section "Terms": each sentence that names a bound, a cut, a MONTH from which on something holds, or
 * what holds without. The numbers due are worked out by hand.
 */
public final class TermsTest {
    private static final int WORK = 0;
    private static final int VARIED = 1;
    private static final int MATERIALS = 2;
    private static final int RETAINED = 3;
    private static final int RECOVERED = 4;
    private static final int SET = 5;
    private static final int NET = 6;
    private static final int CERTIFIED = 7;
    private static final int TOTAL = 8;
    private static final int OWED = 9;
    private static final int INTEREST = 10;
    private static final int DAMAGES = 13;
    private static final int ADJUSTED = 14;

    public static void main(String[] args) {
        sum();
        thousandthsOfSumAreCut();
        thousandthsOfAmountsAreCut();
        done();
        partAtCap();
        capOfSmallQuantities();
        price();
        varied();
        materials();
        retainedBelowZero();
        retainedAtItsLimit();
        retainedFromHandoverOn();
        recoveredAtStart();
        recoveredAtMost();
        recoveredIsNeverLess();
        recoveredFromFinalOn();
        held();
        damagesByMonths();
        damagesTillHandover();
        damagesAtMost();
        index();
        adjustedIsCutTowardsZero();
        adjustedOfEachMonth();
        net();
        certifiedBelowZero();
        owedByGrace();
        owedByPaid();
        interest();
        greatestAmounts();
        Check.end("TermsTest");
    }

    /** ITEMS of RATE 1, so that DONE is PART: SUM 999. */
    private static WorksDesk ones() {
        return Check.desk("0:999*1");
    }

    /** What an amount is with so much DONE in MONTH 0. */
    private static void ofDone(String name, WorksDesk desk, int what, int done, long due) {
        desk.measures(0, 0, done);
        Check.is(name + " of DONE " + done, desk.amount(0, what), due);
    }

    private static void sum() {
        Check.is("SUM of none", Check.desk("").sum(), 0);
        Check.is("SUM of the least", Check.desk("0:1*1").sum(), 1);
        Check.is("SUM of the greatest", Check.desk(Stories.TEN_ITEMS).sum(), 9980010);
        Check.is("SUM of two", Check.desk("0:2*3;4:5*7").sum(), 41);
    }

    /** 99.9, 49.95, 199.8, 0.999, 1.998 and 99.9 of SUM 999. */
    private static void thousandthsOfSumAreCut() {
        WorksDesk desk = ones();
        desk.sum();
        Check.row("ADVANCE and LIMIT thousandths", desk, 99, 49, 1, 2424);
        ofDone("START thousandths are 199: RECOVERED", desk, RECOVERED, 202, 0);
        ofDone("START thousandths are 199: RECOVERED", desk, RECOVERED, 203, 1);
        desk.due(0);
        desk.terms(11, 1);
        Check.is("DAMAGE thousandths, 0.999", desk.amount(23, DAMAGES), 0);
        desk.terms(11, 2);
        Check.is("DAMAGE thousandths, 1.998", desk.amount(1, DAMAGES), 1);
        Check.is("DAMAGE thousandths are cut of each MONTH alike", desk.amount(23, DAMAGES), 23);
        desk.terms(11, 50);
        Check.is("MOST thousandths, 99.9", desk.amount(23, DAMAGES), 99);
    }

    private static void thousandthsOfAmountsAreCut() {
        WorksDesk desk = ones();
        ofDone("KEEP thousandths: RETAINED", desk, RETAINED, 9, 0);
        ofDone("KEEP thousandths: RETAINED", desk, RETAINED, 10, 1);
        ofDone("KEEP thousandths: RETAINED", desk, RETAINED, 19, 1);
        ofDone("KEEP thousandths: RETAINED", desk, RETAINED, 20, 2);
        ofDone("RECOVER thousandths: RECOVERED", desk, RECOVERED, 206, 1);
        ofDone("RECOVER thousandths: RECOVERED", desk, RECOVERED, 207, 2);
        desk.stores(0, 9);
        Check.is("STORED thousandths, 7.2", desk.amount(0, MATERIALS), 7);
        desk.stores(0, 1);
        Check.is("STORED thousandths, 0.8", desk.amount(0, MATERIALS), 0);
        desk.measures(0, 0, 30);
        desk.handover(0);
        Check.is("HALF thousandths of 3 less, 1.5", desk.amount(0, RETAINED), 2);
        desk.setsOff(0, 1);
        desk.disputes(0, 0);
        Check.is("upheld thousandths, 0.999", desk.decides(0, 0, 999), 0);
        desk.setsOff(0, 1001);
        desk.disputes(1, 0);
        Check.is("upheld thousandths, 999.999", desk.decides(1, 0, 999), 999);
        Check.is("SET of cut ones", desk.amount(0, SET), 999);
    }

    private static void done() {
        WorksDesk desk = ones();
        Check.is("DONE without", desk.item(23, 0), 0);
        desk.measures(5, 0, 7);
        desk.measures(9, 0, 3);
        int[][] due = {{0, 0}, {4, 0}, {5, 7}, {6, 7}, {8, 7}, {9, 3}, {10, 3}, {23, 3}};
        for (int[] d : due) {
            Check.is("DONE in " + d[0], desk.item(d[0], 0), d[1]);
        }
        desk.measures(9, 0, 0);
        Check.is("DONE, 0 told", desk.item(9, 0), 0);
        Check.is("DONE behind 0 told", desk.item(23, 0), 0);
        desk.measures(23, 0, 1999);
        Check.is("DONE ahead of the last MONTH", desk.item(22, 0), 0);
        Check.is("DONE in the last MONTH", desk.item(23, 0), 1999);
    }

    /** QUANTITY 999 has CAP 999 and 149 (149.85), RATE 1 is cheap at 0 (0.9); RATE 19 at 17 (17.1). */
    private static void partAtCap() {
        WorksDesk desk = ones();
        ofDone("PART", desk, WORK, 999, 999);
        ofDone("PART at CAP", desk, WORK, 1148, 1148);
        ofDone("PART above CAP", desk, WORK, 1149, 1148);
        ofDone("PART far above CAP", desk, WORK, 1999, 1148);
        WorksDesk dear = Check.desk("0:100*19");
        ofDone("PART at CAP", dear, WORK, 115, 115 * 19);
        ofDone("PART above CAP", dear, WORK, 116, 115 * 19 + 17);
        ofDone("CHEAP thousandths are of RATE", dear, WORK, 125, 115 * 19 + 10 * 17);
        dear.terms(10, 1000);
        ofDone("CHEAP 1000", dear, WORK, 126, 126 * 19);
        dear.terms(10, 0);
        ofDone("CHEAP 0", dear, WORK, 125, 115 * 19);
        dear.terms(9, 0);
        ofDone("ABOVE 0: CAP is QUANTITY", dear, WORK, 100, 1900);
        ofDone("ABOVE 0: CAP is QUANTITY", dear, WORK, 101, 1900);
        dear.terms(9, 500);
        ofDone("ABOVE 500", dear, WORK, 150, 150 * 19);
        ofDone("ABOVE 500", dear, WORK, 151, 150 * 19);
    }

    /** ABOVE 150 of 6 is 0.9, of 7 1.05. */
    private static void capOfSmallQuantities() {
        int[][] caps = {{1, 1}, {6, 6}, {7, 8}, {13, 14}, {14, 16}};
        for (int[] c : caps) {
            WorksDesk desk = Check.desk("0:" + c[0] + "*1");
            ofDone("CAP of " + c[0], desk, WORK, c[1], c[1]);
            ofDone("CAP of " + c[0], desk, WORK, c[1] + 1, c[1]);
        }
    }

    private static void price() {
        WorksDesk desk = Check.desk("0:1*1;0:1*2;1:999*999;1:1*1;3:5*7");
        Check.is("PRICE, 1.5 cut", desk.like(0, 999), 1);
        Check.is("PRICE by QUANTITIES, 998.002 cut", desk.like(1, 0), 998);
        Check.is("PRICE of one like ITEM", desk.like(3, 0), 7);
        Check.is("PRICE without like ITEMS", desk.like(2, 5), 5);
        Check.is("PRICE without like ITEMS, 0", desk.like(4, 0), 0);
        desk.change(0, 0, 999, 999);
        desk.change(0, 2, -999, 999);
        Check.is("PRICE of a CHANGE with like ITEMS", desk.priced(0), 1);
        Check.is("PRICE of a CHANGE without", desk.priced(1), 999);
    }

    private static void varied() {
        WorksDesk desk = Check.desk("0:10*10");
        desk.change(5, 0, 3, 0);
        desk.change(0, 1, -1, 4);
        desk.change(23, 2, 999, 999);
        long[][] due = {{0, -4}, {4, -4}, {5, 26}, {6, 26}, {22, 26}, {23, 26 + 998001}};
        for (long[] d : due) {
            Check.is("VARIED in " + d[0], desk.amount((int) d[0], VARIED), d[1]);
            Check.is("WORK of it in " + d[0], desk.amount((int) d[0], WORK), d[1]);
        }
    }

    private static void materials() {
        WorksDesk desk = ones();
        Check.is("MATERIALS without", desk.amount(23, MATERIALS), 0);
        desk.stores(3, 100);
        desk.stores(6, 10);
        MonthsTest.amounts("MATERIALS", desk, MATERIALS, 0, 0, 0, 80, 80, 80, 8, 8);
        desk.handover(5);
        MonthsTest.amounts("MATERIALS, 0 from HANDOVER on", desk, MATERIALS, 0, 0, 0, 80, 80, 0, 0, 0);
        desk.handover(4);
        MonthsTest.amounts("MATERIALS, 0 from HANDOVER on", desk, MATERIALS, 0, 0, 0, 80, 0, 0, 0, 0);
        desk.handover(0);
        Check.is("MATERIALS, HANDOVER in 0", desk.amount(0, MATERIALS), 0);
        WorksDesk all = ones();
        all.terms(6, 1000);
        all.stores(0, 99999);
        Check.is("MATERIALS, STORED 1000", all.amount(23, MATERIALS), 99999);
        all.terms(6, 0);
        Check.is("MATERIALS, STORED 0", all.amount(23, MATERIALS), 0);
    }

    private static void retainedBelowZero() {
        WorksDesk desk = Check.desk("0:100*10");
        desk.change(1, 4, -1, 10);
        desk.measures(1, 0, 1);
        desk.measures(2, 0, 2);
        desk.measures(3, 0, 0);
        MonthsTest.amounts("WORK about 0", desk, WORK, 0, 0, 10, -10);
        MonthsTest.amounts("RETAINED about 0", desk, RETAINED, 0, 0, 1, 0);
        desk.alters(0, -999);
        Check.is("RETAINED far below 0", desk.amount(23, RETAINED), 0);
        desk.handover(5);
        Check.is("RETAINED below 0, from HANDOVER on", desk.amount(23, RETAINED), 0);
    }

    /** SUM 1000: LIMIT thousandths are 50. */
    private static void retainedAtItsLimit() {
        WorksDesk desk = Check.desk("0:100*10");
        ofDone("RETAINED below the limit", desk, RETAINED, 49, 49);
        ofDone("RETAINED at the limit", desk, RETAINED, 50, 50);
        ofDone("RETAINED above the limit", desk, RETAINED, 51, 50);
        ofDone("RETAINED far above the limit", desk, RETAINED, 1999, 50);
        desk.terms(0, 0);
        ofDone("KEEP 0: RETAINED", desk, RETAINED, 100, 0);
        desk.terms(0, 200);
        desk.terms(1, 200);
        ofDone("KEEP 200, LIMIT 200: RETAINED", desk, RETAINED, 99, 198);
        ofDone("KEEP 200, LIMIT 200: RETAINED", desk, RETAINED, 101, 200);
        desk.terms(1, 0);
        ofDone("LIMIT 0: RETAINED", desk, RETAINED, 102, 0);
    }

    /** HALF is of what is limited, not of what would be kept without a limit. */
    private static void retainedFromHandoverOn() {
        WorksDesk desk = Check.desk("0:100*10");
        desk.measures(0, 0, 100);
        desk.handover(2);
        desk.closes(4);
        MonthsTest.amounts("HALF 500", desk, RETAINED, 50, 50, 25, 25, 0, 0);
        desk.terms(2, 0);
        MonthsTest.amounts("HALF 0", desk, RETAINED, 50, 50, 50, 50, 0, 0);
        desk.terms(2, 1000);
        MonthsTest.amounts("HALF 1000", desk, RETAINED, 50, 50, 0, 0, 0, 0);
        desk.terms(2, 10);
        MonthsTest.amounts("HALF 10: 0.5 cut", desk, RETAINED, 50, 50, 50, 50, 0, 0);
        desk.terms(2, 20);
        MonthsTest.amounts("HALF 20: 1", desk, RETAINED, 50, 50, 49, 49, 0, 0);
        desk.closes(2);
        MonthsTest.amounts("FINAL in the MONTH of HANDOVER", desk, RETAINED, 50, 50, 0, 0);
    }

    /** SUM 1000: START thousandths are 200. */
    private static void recoveredAtStart() {
        WorksDesk desk = Check.desk("0:100*10");
        desk.terms(5, 1000);
        ofDone("RECOVERED far below START", desk, RECOVERED, 0, 0);
        ofDone("RECOVERED below START", desk, RECOVERED, 19, 0);
        ofDone("RECOVERED at START", desk, RECOVERED, 20, 0);
        ofDone("RECOVERED above START", desk, RECOVERED, 21, 10);
        desk.terms(4, 0);
        ofDone("START 0: RECOVERED", desk, RECOVERED, 0, 0);
        ofDone("START 0: RECOVERED", desk, RECOVERED, 1, 10);
        desk.terms(4, 500);
        ofDone("START 500: RECOVERED", desk, RECOVERED, 50, 0);
        ofDone("START 500: RECOVERED", desk, RECOVERED, 51, 10);
        desk.terms(5, 0);
        ofDone("RECOVER 0: RECOVERED", desk, RECOVERED, 1999, 0);
        WorksDesk below = Check.desk("0:100*10");
        below.change(0, 1, -9, 9);
        Check.is("RECOVERED, WORK below 0", below.amount(23, RECOVERED), 0);
    }

    /** ADVANCED 100, a fourth of what is above 200: 100 at 600. */
    private static void recoveredAtMost() {
        WorksDesk desk = Check.desk("0:100*10");
        ofDone("RECOVERED", desk, RECOVERED, 59, 97);
        ofDone("RECOVERED as ADVANCED", desk, RECOVERED, 60, 100);
        ofDone("RECOVERED, ADVANCED at most", desk, RECOVERED, 61, 100);
        desk.terms(3, 0);
        ofDone("ADVANCE 0: RECOVERED", desk, RECOVERED, 62, 0);
        desk.terms(3, 300);
        ofDone("ADVANCE 300: RECOVERED", desk, RECOVERED, 100, 200);
    }

    private static void recoveredIsNeverLess() {
        WorksDesk desk = Check.desk("0:100*10");
        desk.measures(1, 0, 40);
        desk.measures(2, 0, 30);
        desk.measures(4, 0, 0);
        desk.measures(6, 0, 44);
        MonthsTest.amounts("RECOVERED", desk, RECOVERED, 0, 50, 50, 50, 50, 50, 60, 60);
        desk.measures(6, 0, 1999);
        desk.measures(7, 0, 0);
        MonthsTest.amounts("RECOVERED", desk, RECOVERED, 0, 50, 50, 50, 50, 50, 100, 100);
    }

    private static void recoveredFromFinalOn() {
        WorksDesk desk = Check.desk("0:100*10");
        desk.measures(1, 0, 40);
        desk.handover(1);
        desk.closes(3);
        MonthsTest.amounts("RECOVERED, FINAL in 3", desk, RECOVERED, 0, 50, 50, 100, 100);
        desk.closes(1);
        MonthsTest.amounts("RECOVERED, FINAL in 1", desk, RECOVERED, 0, 100, 100);
        desk.handover(0);
        desk.closes(0);
        MonthsTest.amounts("RECOVERED, FINAL in 0", desk, RECOVERED, 100, 100, 100);
        desk.closes(23);
        Check.is("RECOVERED ahead of FINAL in 23", desk.amount(22, RECOVERED), 50);
        Check.is("RECOVERED, FINAL in 23", desk.amount(23, RECOVERED), 100);
    }

    private static void heldIs(String name, WorksDesk desk, int setOff, int... due) {
        for (int month = 0; month < due.length; month++) {
            Check.is(name + ": HELD in " + month, desk.held(setOff, month), due[month]);
        }
    }

    private static void held() {
        WorksDesk desk = ones();
        desk.setsOff(2, 100);
        heldIs("from its MONTH on", desk, 0, 0, 0, 100, 100);
        desk.disputes(0, 4);
        heldIs("disputed", desk, 0, 0, 0, 100, 100, 0, 0);
        desk.decides(0, 6, 250);
        heldIs("decided", desk, 0, 0, 0, 100, 100, 0, 0, 25, 25);
        desk.setsOff(2, 100);
        desk.disputes(1, 2);
        heldIs("disputed at once", desk, 1, 0, 0, 0, 0);
        desk.decides(1, 2, 1000);
        heldIs("disputed and decided at once", desk, 1, 0, 0, 100, 100);
        desk.setsOff(0, 100);
        desk.disputes(2, 0);
        desk.decides(2, 23, 1);
        Check.is("HELD ahead of the decision", desk.held(2, 22), 0);
        Check.is("HELD from the decision on, 0.1 cut", desk.held(2, 23), 0);
        desk.setsOff(23, 99999);
        Check.is("HELD ahead of the last MONTH", desk.held(3, 22), 0);
        Check.is("HELD in the last MONTH", desk.held(3, 23), 99999);
        MonthsTest.amounts("SET", desk, SET, 0, 0, 200, 200, 100, 100, 125);
        Check.is("SET in 23", desk.amount(23, SET), 100124);
    }

    /** SUM 1000, 10 a MONTH. */
    private static WorksDesk late(int due) {
        WorksDesk desk = Check.desk("0:100*10");
        desk.terms(11, 10);
        desk.terms(12, 200);
        desk.due(due);
        return desk;
    }

    private static void damagesByMonths() {
        WorksDesk desk = late(2);
        MonthsTest.amounts("DUE in 2", desk, DAMAGES, 0, 0, 0, 10, 20, 30);
        desk.grants(2);
        MonthsTest.amounts("2 GRANTED", desk, DAMAGES, 0, 0, 0, 0, 0, 10, 20);
        MonthsTest.amounts("DUE in 0", late(0), DAMAGES, 0, 10, 20);
        Check.is("DUE in 22", late(22).amount(23, DAMAGES), 10);
        Check.is("DUE in 23", late(23).amount(23, DAMAGES), 0);
        desk.due(20);
        Check.is("DUE in 20, 2 GRANTED, in 22", desk.amount(22, DAMAGES), 0);
        Check.is("DUE in 20, 2 GRANTED, in 23", desk.amount(23, DAMAGES), 10);
        desk.grants(1);
        Check.is("DUE in 20, 3 GRANTED", desk.amount(23, DAMAGES), 0);
        desk.grants(9);
        Check.is("DUE in 20, 12 GRANTED", desk.amount(23, DAMAGES), 0);
        WorksDesk untold = Check.desk("0:100*10");
        untold.terms(11, 50);
        Check.is("DUE not told", untold.amount(23, DAMAGES), 0);
    }

    private static void damagesTillHandover() {
        WorksDesk desk = late(2);
        desk.handover(5);
        MonthsTest.amounts("HANDOVER in 5", desk, DAMAGES, 0, 0, 0, 10, 20, 30, 30, 30);
        desk.handover(3);
        MonthsTest.amounts("HANDOVER just behind DUE", desk, DAMAGES, 0, 0, 0, 10, 10, 10);
        desk.handover(2);
        MonthsTest.amounts("HANDOVER when DUE", desk, DAMAGES, 0, 0, 0, 0, 0, 0);
        desk.handover(0);
        MonthsTest.amounts("HANDOVER ahead of DUE", desk, DAMAGES, 0, 0, 0, 0, 0, 0);
        desk.handover(5);
        desk.closes(5);
        MonthsTest.amounts("FINAL lets them stand", desk, DAMAGES, 0, 0, 0, 10, 20, 30, 30);
    }

    private static void damagesAtMost() {
        WorksDesk desk = late(2);
        desk.terms(12, 20);
        MonthsTest.amounts("MOST as two MONTHS", desk, DAMAGES, 0, 0, 0, 10, 20, 20, 20);
        desk.terms(12, 19);
        MonthsTest.amounts("MOST below two MONTHS", desk, DAMAGES, 0, 0, 0, 10, 19, 19, 19);
        desk.terms(12, 21);
        MonthsTest.amounts("MOST above two MONTHS", desk, DAMAGES, 0, 0, 0, 10, 20, 21, 21);
        desk.terms(12, 0);
        MonthsTest.amounts("MOST 0", desk, DAMAGES, 0, 0, 0, 0, 0);
        desk.terms(12, 200);
        desk.terms(11, 50);
        MonthsTest.amounts("DAMAGE 50, MOST 200", desk, DAMAGES, 0, 0, 0, 50, 100, 150, 200, 200);
        desk.terms(11, 0);
        Check.is("DAMAGE 0", desk.amount(23, DAMAGES), 0);
    }

    /** WORK grows by 1000 in each of the first six MONTHS, all of which follows. */
    private static WorksDesk growing() {
        WorksDesk desk = Check.desk("0:999*10");
        desk.terms(13, 1000);
        for (int month = 0; month < 6; month++) {
            desk.measures(month, 0, 100 * (month + 1));
        }
        return desk;
    }

    private static void index() {
        WorksDesk desk = growing();
        MonthsTest.amounts("INDEX without", desk, ADJUSTED, 0, 0, 0, 0, 0, 0, 0);
        desk.indexes(2, 1001);
        desk.indexes(4, 999);
        MonthsTest.amounts("INDEX as told latest", desk, ADJUSTED, 0, 0, 1, 2, 1, 0, 0);
        desk.indexes(0, 2000);
        MonthsTest.amounts("INDEX 2000 in 0", desk, ADJUSTED, 1000, 2000, 2001, 2002, 2001, 2000, 2000);
        desk.indexes(0, 500);
        MonthsTest.amounts("INDEX 500 in 0", desk, ADJUSTED, -500, -1000, -999, -998, -999, -1000, -1000);
        desk.indexes(0, 1000);
        MonthsTest.amounts("INDEX 1000 in 0", desk, ADJUSTED, 0, 0, 1, 2, 1, 0, 0);
        desk.terms(13, 0);
        MonthsTest.amounts("FOLLOW 0", desk, ADJUSTED, 0, 0, 0, 0, 0, 0, 0);
    }

    /** 19 by 1.1 or by 0.9; of 3 or of -3 a half. */
    private static void adjustedIsCutTowardsZero() {
        WorksDesk desk = ones();
        desk.terms(13, 1000);
        desk.measures(0, 0, 19);
        desk.indexes(0, 1100);
        Check.is("ADJUSTED, 1.9", desk.amount(0, ADJUSTED), 1);
        desk.indexes(0, 900);
        Check.is("ADJUSTED, -1.9", desk.amount(0, ADJUSTED), -1);
        desk.indexes(0, 999);
        Check.is("ADJUSTED, -0.019", desk.amount(0, ADJUSTED), 0);
        desk.measures(0, 0, 30);
        desk.terms(13, 500);
        desk.indexes(0, 1100);
        Check.is("FOLLOW thousandths, 1.5", desk.amount(0, ADJUSTED), 1);
        desk.indexes(0, 900);
        Check.is("FOLLOW thousandths, -1.5", desk.amount(0, ADJUSTED), -1);
        desk.measures(0, 0, 39);
        Check.is("both are cut, -3.9 and of -3 a half", desk.amount(0, ADJUSTED), -1);
        desk.indexes(0, 1100);
        Check.is("both are cut, 3.9 and of 3 a half", desk.amount(0, ADJUSTED), 1);
    }

    /** 5 more at 1.1 come to 0 in each MONTH (0.5); 10 less come to -1. */
    private static void adjustedOfEachMonth() {
        WorksDesk desk = ones();
        desk.terms(13, 1000);
        desk.indexes(0, 1100);
        desk.measures(0, 0, 15);
        desk.measures(1, 0, 20);
        desk.measures(2, 0, 25);
        desk.measures(3, 0, 35);
        desk.measures(5, 0, 25);
        MonthsTest.amounts("ADJUSTED", desk, ADJUSTED, 1, 1, 1, 2, 2, 1, 1);
        desk.indexes(5, 900);
        MonthsTest.amounts("less at 0.9 is more", desk, ADJUSTED, 1, 1, 1, 2, 2, 3, 3);
    }

    private static void net() {
        WorksDesk desk = Check.desk("0:100*10");
        desk.measures(0, 0, 40);
        desk.stores(0, 100);
        desk.setsOff(0, 7);
        desk.terms(11, 10);
        desk.due(0);
        desk.terms(13, 1000);
        desk.indexes(0, 1010);
        Check.is("NET in 0", desk.amount(0, NET), 400 + 80 + 100 + 4 - 40 - 50 - 7);
        Check.is("NET in 1", desk.amount(1, NET), 400 + 80 + 100 + 4 - 40 - 50 - 7 - 10);
        desk.handover(2);
        desk.closes(3);
        Check.is("NET in 2", desk.amount(2, NET), 400 + 100 + 4 - 20 - 50 - 7 - 20);
        Check.is("NET in 3", desk.amount(3, NET), 400 + 100 + 4 - 100 - 7 - 20);
        Check.is("NET of nothing but the advance", Check.desk("0:100*10").amount(0, NET), 100);
    }

    /** WORK 100, 90, 90, 80, 110: without FINAL nothing is taken back. */
    private static void certifiedBelowZero() {
        WorksDesk desk = Stories.bare();
        int[] done = {10, 9, 9, 8, 11};
        for (int month = 0; month < done.length; month++) {
            desk.measures(month, 0, done[month]);
        }
        MonthsTest.amounts("FINAL not told", desk, CERTIFIED, 100, 0, 0, 0, 10, 0);
        MonthsTest.amounts("FINAL not told", desk, TOTAL, 100, 100, 100, 100, 110, 110);
        desk.handover(0);
        desk.closes(3);
        MonthsTest.amounts("FINAL in 3", desk, CERTIFIED, 100, 0, 0, -20, 30, 0);
        MonthsTest.amounts("FINAL in 3", desk, TOTAL, 100, 100, 100, 80, 110, 110);
        desk.closes(1);
        MonthsTest.amounts("FINAL in 1: less is CERTIFIED behind it, too", desk, CERTIFIED, 100, -10, 0, -10, 30, 0);
        desk.closes(0);
        MonthsTest.amounts("FINAL in 0", desk, CERTIFIED, 100, -10, 0, -10, 30, 0);
        WorksDesk ones = ones();
        ones.terms(0, 0);
        ones.terms(3, 0);
        ones.measures(0, 0, 10);
        ones.measures(1, 0, 9);
        ones.measures(2, 0, 10);
        ones.measures(3, 0, 11);
        MonthsTest.amounts("1 less", ones, CERTIFIED, 10, 0, 0, 1, 0);
        ones.handover(0);
        ones.closes(1);
        MonthsTest.amounts("1 less, FINAL in 1", ones, CERTIFIED, 10, -1, 1, 1, 0);
        WorksDesk first = Stories.bare();
        first.setsOff(0, 5);
        first.handover(0);
        first.closes(1);
        MonthsTest.amounts("NET below 0 from 0 on", first, CERTIFIED, 0, -5, 0);
        first.closes(0);
        MonthsTest.amounts("FINAL in 0, NET below 0", first, CERTIFIED, -5, 0, 0);
    }

    private static void owedByGrace() {
        WorksDesk desk = Stories.bare();
        desk.measures(2, 0, 1);
        desk.measures(3, 0, 3);
        desk.terms(8, 0);
        MonthsTest.amounts("GRACE 0", desk, OWED, 0, 0, 10, 30, 30);
        desk.terms(8, 1);
        MonthsTest.amounts("GRACE 1", desk, OWED, 0, 0, 0, 10, 30, 30);
        desk.terms(8, 6);
        MonthsTest.amounts("GRACE 6", desk, OWED, 0, 0, 0, 0, 0, 0, 0, 0, 10, 30, 30);
        WorksDesk last = Stories.bare();
        last.terms(8, 6);
        last.measures(17, 0, 1);
        last.measures(18, 0, 3);
        Check.is("GRACE 6, in 22", last.amount(22, OWED), 0);
        Check.is("GRACE 6, in 23", last.amount(23, OWED), 10);
    }

    private static void owedByPaid() {
        WorksDesk desk = Stories.bare();
        desk.measures(0, 0, 10);
        desk.pays(3, 99);
        MonthsTest.amounts("PAID in it, too", desk, OWED, 0, 100, 100, 1, 1);
        desk.pays(3, 100);
        MonthsTest.amounts("just all is PAID", desk, OWED, 0, 100, 100, 0, 0);
        desk.pays(3, 101);
        MonthsTest.amounts("more is PAID", desk, OWED, 0, 100, 100, 0, 0);
        desk.measures(5, 0, 11);
        MonthsTest.amounts("what was PAID too much counts on", desk, OWED, 0, 100, 100, 0, 0, 0, 9);
        desk.pays(0, 100);
        MonthsTest.amounts("PAID ahead", desk, OWED, 0, 0, 0, 0, 0, 0, 0);
        WorksDesk closed = Stories.bare();
        closed.setsOff(0, 5);
        closed.handover(0);
        closed.closes(0);
        MonthsTest.amounts("TOTAL below 0", closed, OWED, 0, 0, 0);
    }

    private static void interest() {
        WorksDesk desk = Stories.bare();
        desk.terms(8, 0);
        desk.measures(0, 0, 9);
        desk.measures(1, 0, 10);
        desk.measures(2, 0, 19);
        desk.measures(3, 0, 20);
        MonthsTest.amounts("LATE 10", desk, INTEREST, 0, 1, 1, 2, 2);
        MonthsTest.amounts("INTEREST adds up", desk, 11, 0, 1, 2, 4, 6);
        desk.terms(7, 100);
        MonthsTest.amounts("LATE 100", desk, INTEREST, 9, 10, 19, 20, 20);
        desk.terms(7, 0);
        MonthsTest.amounts("LATE 0", desk, INTEREST, 0, 0, 0, 0, 0);
    }

    /** Ten ITEMS of 999 at 999, 1999 DONE of each: 1148 at 999 and 851 at 899; eight CHANGES of 999 at 999. */
    private static void greatestAmounts() {
        WorksDesk desk = Check.desk(Stories.TEN_ITEMS);
        for (int item = 0; item < 10; item++) {
            desk.measures(0, item, 1999);
        }
        for (int change = 0; change < 8; change++) {
            desk.change(0, 0, 999, 999);
        }
        long work = 10L * (1148 * 999 + 851 * 899) + 8L * 998001;
        desk.terms(13, 1000);
        desk.indexes(0, 2000);
        Check.is("greatest WORK", desk.amount(0, WORK), work);
        Check.is("greatest ADJUSTED", desk.amount(0, ADJUSTED), work);
        Check.is("greatest NET", desk.amount(0, NET), 2 * work - 499000);
        desk.indexes(0, 1000);
        desk.terms(7, 100);
        desk.terms(8, 0);
        Check.is("greatest INTEREST", desk.amount(23, 11), 24 * ((work - 499000) / 10));
    }
}
