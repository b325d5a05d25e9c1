/**
 * Promises 20 to 47, sentence by sentence: the first and the last MONTH, the least and the greatest of each number,
 * equal ones, none at all. The numbers due are worked out by hand; refusals stand in RefusalsTest.
 */
public final class AskedEdgesTest {
    public static void main(String[] args) {
        amount();
        item();
        priced();
        held();
        sum();
        lines();
        recovered();
        limited();
        limitedAheadOfHandover();
        reaches();
        reachesWhatIsTakenBack();
        worst();
        clears();
        paces();
        pacesInPlaceOfWhatWasPaid();
        enough();
        enoughAtItsBounds();
        shifts();
        were();
        dearest();
        endsWhereItIsSo();
        endsGoingOn();
        leads();
        above();
        like();
        would();
        keeps();
        overdue();
        needed();
        rises();
        account();
        count();
        row();
        Check.end("AskedEdgesTest");
    }

    private static void amount() {
        WorksDesk desk = Check.desk("0:100*10");
        for (int month : new int[] {0, 23}) {
            for (int what : new int[] {0, 14}) {
                Check.is("amount(" + month + ", " + what + ") does not throw", Check.throwsAtAmount(desk, month, what), false);
            }
            for (int what : new int[] {-1, 15}) {
                Check.is("amount(" + month + ", " + what + ") throws", Check.throwsAtAmount(desk, month, what), true);
            }
        }
        Check.is("amount(-1, 0) throws", Check.throwsAtAmount(desk, -1, 0), true);
        Check.is("amount(24, 14) throws", Check.throwsAtAmount(desk, 24, 14), true);
        Check.is("amount(24, 15) throws", Check.throwsAtAmount(desk, 24, 15), true);
        desk.pays(0, 999999);
        desk.pays(23, 999999);
        Check.is("PAID till 0", desk.amount(0, 12), 999999);
        Check.is("PAID till 22", desk.amount(22, 12), 999999);
        Check.is("PAID till 23", desk.amount(23, 12), 1999998);
    }

    private static void itemIs(WorksDesk desk, int month, int item, int done, long... row) {
        String name = "item(" + month + ", " + item + ")";
        Check.is(name, desk.item(month, item), done);
        Check.row(name, desk, row);
    }

    /** QUANTITY 20: CAP 23; RATE 10 is cheap at 9. */
    private static void item() {
        WorksDesk desk = Check.desk("0:20*10;1:1*1");
        itemIs(desk, 0, 0, 0, 0, 0, 0);
        desk.measures(0, 0, 23);
        desk.measures(1, 0, 24);
        desk.measures(2, 0, 5);
        desk.measures(23, 0, 1999);
        itemIs(desk, 0, 0, 23, 230, 230, 0);
        itemIs(desk, 1, 0, 24, 239, 9, 1);
        itemIs(desk, 2, 0, 5, 50, -189, 0);
        itemIs(desk, 3, 0, 5, 50, 0, 0);
        itemIs(desk, 22, 0, 5, 50, 0, 0);
        itemIs(desk, 23, 0, 1999, 230 + 1976 * 9, 180 + 1976 * 9, 1);
        itemIs(desk, 23, 1, 0, 0, 0, 0);
        WorksDesk ten = Check.desk(Stories.TEN_ITEMS);
        ten.measures(0, 9, 1);
        itemIs(ten, 0, 9, 1, 999, 999, 0);
        Check.is("behind the tenth ITEM", ten.item(0, 10), -1);
    }

    private static void priced() {
        WorksDesk desk = Check.desk(Stories.TEN_ITEMS);
        desk.change(23, 4, -999, 0);
        desk.change(0, 3, 999, 999);
        Check.is("PRICE of ten like ITEMS", desk.priced(0), 999);
        Check.row("ten like ITEMS", desk, 23, 4, -999, -998001, 10);
        Check.is("PRICE of none", desk.priced(1), 999);
        Check.row("no like ITEMS", desk, 0, 3, 999, 998001, 0);
        Check.is("behind the last CHANGE", desk.priced(2), -1);
    }

    private static void held() {
        WorksDesk desk = new WorksDesk();
        desk.setsOff(0, 1);
        desk.setsOff(23, 99999);
        Check.is("held(0, 0)", desk.held(0, 0), 1);
        Check.row("NONE each, 0", desk, 0, 1, -1, -1, 0);
        Check.is("held(1, 22)", desk.held(1, 22), 0);
        Check.row("the ROW is the same ahead of it", desk, 23, 99999, -1, -1, 0);
        Check.is("held(1, 23)", desk.held(1, 23), 99999);
        desk.disputes(0, 0);
        Check.is("held(0, 0), disputed in 0", desk.held(0, 0), 0);
        Check.row("disputed in 0, not decided", desk, 0, 1, 0, -1, 0);
        desk.decides(0, 0, 1000);
        Check.is("held(0, 0), decided in 0", desk.held(0, 0), 1);
        Check.row("decided in 0", desk, 0, 1, 0, 0, 1000);
        desk.disputes(1, 23);
        desk.decides(1, 23, 0);
        Check.is("held(1, 23), decided for nothing", desk.held(1, 23), 0);
        Check.row("decided for nothing", desk, 23, 99999, 23, 23, 0);
        Check.is("behind the last SET-OFF", desk.held(2, 23), -1);
    }

    private static void sum() {
        WorksDesk desk = new WorksDesk();
        Check.is("SUM of none", desk.sum(), 0);
        Check.row("SUM of none", desk, 0, 0, 0, 2424);
        Check.bill(desk, Stories.TEN_ITEMS);
        Check.is("SUM of ten", desk.sum(), 9980010);
        Check.row("SUM of ten", desk, 998001, 499000, 10, 2424);
        desk.terms(3, 300);
        desk.terms(1, 200);
        desk.handover(0);
        desk.sum();
        Check.row("HANDOVER in 0", desk, 2994003, 1996002, 10, 24);
        desk.closes(0);
        desk.sum();
        Check.row("FINAL in 0", desk, 2994003, 1996002, 10, 0);
        desk.closes(23);
        desk.handover(23);
        desk.terms(3, 0);
        desk.terms(1, 0);
        desk.sum();
        Check.row("both in 23", desk, 0, 0, 10, 2323);
    }

    private static void lines() {
        WorksDesk desk = Check.desk("0:100*10");
        desk.measures(0, 0, 40);
        desk.stores(0, 100);
        desk.setsOff(0, 9);
        desk.disputes(0, 1);
        desk.handover(1);
        desk.closes(23);
        Check.is("lines(0)", desk.lines(0), 0);
        Check.row("lines(0): as they are", desk, 400, 80, 40, 50, 9);
        Check.is("lines(1)", desk.lines(1), 0);
        Check.row("lines(1): less than in 0", desk, 0, -80, -20, 0, -9);
        desk.lines(22);
        Check.row("lines(22): nothing new", desk, 0, 0, 0, 0, 0);
        Check.is("lines(23)", desk.lines(23), 0);
        Check.row("lines(23): FINAL", desk, 0, 0, -20, 50, 0);
    }

    /** ADVANCED 100 is recovered at WORK 600. */
    private static void recovered() {
        for (int month : new int[] {0, 1, 22, 23}) {
            WorksDesk desk = Check.desk("0:100*10");
            desk.measures(month, 0, 59);
            Check.is("recovered(), 97 of 100", desk.recovered(), -2);
            desk.measures(month, 0, 60);
            Check.is("recovered(), 100 of 100", desk.recovered(), month);
            if (month < 23) {
                desk.measures(month + 1, 0, 0);
                Check.is("recovered() is the first", desk.recovered(), month);
            }
        }
        WorksDesk desk = Check.desk("0:100*10");
        Check.is("recovered(): none", desk.recovered(), -2);
        desk.handover(0);
        desk.closes(23);
        Check.is("recovered() by FINAL in 23", desk.recovered(), 23);
        desk.closes(0);
        Check.is("recovered() by FINAL in 0", desk.recovered(), 0);
        WorksDesk none = Check.desk("0:9*1");
        Check.is("recovered(): ADVANCED is 0", none.recovered(), 0);
        none.terms(3, 112);
        Check.is("recovered(): ADVANCED is 1", none.recovered(), -2);
    }

    private static void limited() {
        for (int month : new int[] {0, 1, 22, 23}) {
            WorksDesk desk = Check.desk("0:100*10");
            desk.measures(month, 0, 49);
            Check.is("limited(), 49 of 50", desk.limited(), -2);
            desk.measures(month, 0, 50);
            Check.is("limited(), 50 of 50", desk.limited(), month);
            desk.measures(month, 0, 1999);
            Check.is("limited(), far above", desk.limited(), month);
            if (month < 23) {
                desk.measures(month + 1, 0, 0);
                Check.is("limited() is the first", desk.limited(), month);
            }
        }
        WorksDesk small = Check.desk("0:19*1");
        small.measures(0, 0, 19);
        Check.is("limited(): the limit is 0", small.limited(), -2);
        small.terms(1, 53);
        Check.is("limited(): the limit is 1", small.limited(), 0);
        small.terms(0, 0);
        Check.is("limited(): KEEP is 0", small.limited(), -2);
    }

    private static void limitedAheadOfHandover() {
        WorksDesk desk = Check.desk("0:100*10");
        desk.terms(2, 0);
        desk.measures(5, 0, 50);
        desk.handover(6);
        Check.is("limited(): HANDOVER a MONTH later", desk.limited(), 5);
        desk.handover(5);
        Check.is("limited(): HANDOVER in that MONTH", desk.limited(), -2);
        desk.handover(0);
        Check.is("limited(): HANDOVER in 0", desk.limited(), -2);
        desk.handover(23);
        desk.measures(5, 0, 49);
        desk.measures(23, 0, 50);
        Check.is("limited(): HANDOVER in 23", desk.limited(), -2);
        desk.measures(22, 0, 50);
        Check.is("limited(): HANDOVER in 23, reached in 22", desk.limited(), 22);
    }

    private static void reachesIs(WorksDesk desk, long v, int due, long row) {
        Check.is("reaches(" + v + ")", desk.reaches(v), due);
        Check.row("reaches(" + v + ")", desk, row);
    }

    private static void reaches() {
        WorksDesk desk = Stories.bare();
        Check.is("reaches(1) of nothing", desk.reaches(1), -2);
        desk.measures(0, 0, 1);
        desk.measures(22, 0, 2);
        desk.measures(23, 0, 3);
        reachesIs(desk, 1, 0, 10);
        reachesIs(desk, 10, 0, 10);
        reachesIs(desk, 11, 22, 20);
        reachesIs(desk, 20, 22, 20);
        reachesIs(desk, 21, 23, 30);
        reachesIs(desk, 30, 23, 30);
        Check.is("reaches(31)", desk.reaches(31), -2);
        Check.is("reaches(MAX)", desk.reaches(Long.MAX_VALUE), -2);
        Check.is("reaches(0)", desk.reaches(0), -1);
        Check.is("reaches(-1)", desk.reaches(-1), -1);
        Check.is("reaches(MIN)", desk.reaches(Long.MIN_VALUE), -1);
        Check.row("the ROW stays", desk, 30);
    }

    /** TOTAL 100, 100, 40: what is less from FINAL on does not undo that it was reached. */
    private static void reachesWhatIsTakenBack() {
        WorksDesk desk = Stories.bare();
        desk.measures(0, 0, 10);
        desk.measures(1, 0, 4);
        desk.handover(2);
        desk.closes(2);
        Check.is("TOTAL of the last MONTH", desk.amount(23, 8), 40);
        reachesIs(desk, 41, 0, 100);
        reachesIs(desk, 100, 0, 100);
        Check.is("reaches(101)", desk.reaches(101), -2);
    }

    private static void worst() {
        WorksDesk desk = Stories.bare();
        Check.is("worst() of nothing", desk.worst(), 0);
        Check.row("worst() of nothing", desk, 0, 0);
        desk.measures(23, 0, 1);
        Check.is("worst(): OWED behind the last MONTH alone", desk.worst(), 0);
        Check.row("worst(): OWED behind the last MONTH alone", desk, 0, 0);
        desk.measures(22, 0, 1);
        Check.is("worst(): in the last MONTH alone", desk.worst(), 23);
        Check.row("worst(): in the last MONTH alone", desk, 10, 1);
        desk.measures(0, 0, 1);
        Check.is("worst(): of equal ones the first", desk.worst(), 1);
        Check.row("worst(): of equal ones the first", desk, 10, 23);
        desk.terms(8, 0);
        Check.is("worst(): GRACE 0", desk.worst(), 0);
        Check.row("worst(): GRACE 0", desk, 10, 24);
        desk.pays(5, 4);
        Check.is("worst(): less is OWED later", desk.worst(), 0);
        Check.row("worst(): less is OWED later", desk, 10, 24);
        desk.pays(5, 0);
        desk.pays(0, 9);
        Check.is("worst(): OWED 1", desk.worst(), 0);
        Check.row("worst(): OWED 1", desk, 1, 24);
        desk.pays(0, 10);
        Check.row("the ROW stays with pays()", desk, 1, 24);
        Check.is("worst(): all is PAID", desk.worst(), 0);
        Check.row("worst(): all is PAID", desk, 0, 0);
    }

    private static void clearsIs(WorksDesk desk, int month, long more, long interest) {
        Check.is("clears(" + month + ")", desk.clears(month), 0);
        Check.row("clears(" + month + ")", desk, more, interest);
    }

    /** 1000 from MONTH 0 on, OWED from 1 on, 10 a MONTH. */
    private static void clears() {
        WorksDesk desk = Stories.bare();
        clearsIs(desk, 0, 0, 0);
        desk.measures(0, 0, 100);
        clearsIs(desk, 0, 0, 230);
        clearsIs(desk, 1, 1000, 0);
        clearsIs(desk, 2, 1000, 10);
        clearsIs(desk, 22, 1000, 210);
        clearsIs(desk, 23, 1000, 220);
        desk.pays(2, 999);
        clearsIs(desk, 1, 1000, 0);
        clearsIs(desk, 2, 1, 10);
        desk.pays(2, 1001);
        clearsIs(desk, 2, 0, 10);
        desk.pays(2, 0);
        desk.pays(23, 500);
        clearsIs(desk, 0, 0, 22 * 10 + 5);
        clearsIs(desk, 23, 500, 22 * 10);
        WorksDesk dear = Check.desk("0:999*999;0:999*999");
        dear.measures(0, 0, 999);
        dear.measures(0, 1, 999);
        dear.pays(1, 1);
        clearsIs(dear, 1, 1896201, 0);
    }

    private static void pacesIs(WorksDesk desk, int month, int v, int due, long interest) {
        String name = "paces(" + month + ", " + v + ")";
        Check.is(name, desk.paces(month, v), due);
        Check.row(name, desk, interest);
    }

    /** 1000 from MONTH 0 on, OWED from 1 on. */
    private static void paces() {
        WorksDesk desk = Stories.bare();
        pacesIs(desk, 0, 1, 0, 0);
        pacesIs(desk, 23, 999999, 23, 0);
        desk.measures(0, 0, 100);
        pacesIs(desk, 0, 1, 0, 10 - 1 + 22 * 9);
        pacesIs(desk, 1, 1000, 1, 0);
        pacesIs(desk, 1, 999, 2, 0);
        pacesIs(desk, 1, 999999, 1, 0);
        pacesIs(desk, 1, 500, 2, 5);
        pacesIs(desk, 1, 499, 3, 5);
        pacesIs(desk, 23, 1000, 23, 220);
        Check.is("paces(23, 999): none", desk.paces(23, 999), -2);
        pacesIs(desk, 22, 500, 23, 210 + 5);
        Check.is("paces(22, 499): none", desk.paces(22, 499), -2);
        Check.row("the ROW stays", desk, 215);
        Check.is("paces(1, 1): none", desk.paces(1, 1), -2);
        Check.is("paces(1, 0)", desk.paces(1, 0), -1);
        Check.is("paces(1, 1000000)", desk.paces(1, 1000000), -1);
    }

    /** What was PAID ahead of the MONTH stays, what was PAID from it on does not count. */
    private static void pacesInPlaceOfWhatWasPaid() {
        WorksDesk desk = Stories.bare();
        desk.measures(0, 0, 100);
        desk.pays(1, 900);
        desk.pays(2, 999999);
        desk.pays(23, 999999);
        pacesIs(desk, 2, 100, 2, 1);
        pacesIs(desk, 2, 99, 3, 1);
        pacesIs(desk, 1, 100, 10, 9 + 8 + 7 + 6 + 5 + 4 + 3 + 2 + 1);
        Check.is("paces(1, 43)", desk.paces(1, 43), -2);
        Check.is("paces(1, 44)", desk.paces(1, 44), 23);
        desk.measures(22, 0, 101);
        Check.is("paces: the first, though more is OWED later", desk.paces(2, 100), 2);
    }

    private static void enoughIs(WorksDesk desk, int month, int by, long v) {
        String name = "enough(" + month + ", " + by + ")";
        Check.is(name, desk.enough(month, by), 0);
        Check.row(name, desk, v);
        int paced = desk.paces(month, (int) v);
        Check.is(name + ": paces() of it is by then", paced >= month && paced <= by, true);
        if (v > 1) {
            int less = desk.paces(month, (int) v - 1);
            Check.is(name + ": paces() of 1 less is not", less >= month && less <= by, false);
        }
    }

    private static void enough() {
        WorksDesk desk = Stories.bare();
        enoughIs(desk, 0, 0, 1);
        enoughIs(desk, 23, 23, 1);
        enoughIs(desk, 0, 23, 1);
        desk.measures(0, 0, 100);
        enoughIs(desk, 0, 0, 1);
        enoughIs(desk, 1, 1, 1000);
        enoughIs(desk, 1, 2, 500);
        enoughIs(desk, 1, 3, 334);
        enoughIs(desk, 1, 23, 44);
        enoughIs(desk, 22, 23, 500);
        enoughIs(desk, 23, 23, 1000);
        desk.measures(3, 0, 115);
        enoughIs(desk, 1, 4, 288);
        // 1339 OWED in 4 would take 335 a MONTH
        desk.measures(3, 0, 136);
        enoughIs(desk, 1, 4, 334);
        desk.pays(0, 999);
        enoughIs(desk, 1, 1, 1);
        desk.pays(1, 999999);
        enoughIs(desk, 1, 1, 1);
        desk.pays(0, 998);
        enoughIs(desk, 1, 1, 2);
        enoughIs(desk, 2, 2, 1);
    }

    /** TOTAL 1896202 from MONTH 0 on. */
    private static void enoughAtItsBounds() {
        WorksDesk desk = Check.desk("0:999*999;0:999*999");
        desk.measures(0, 0, 999);
        desk.measures(0, 1, 999);
        Check.is("enough(1, 1): above 999999", desk.enough(1, 1), -2);
        Check.is("enough(23, 23): above 999999", desk.enough(23, 23), -2);
        enoughIs(desk, 1, 2, 948101);
        desk.pays(0, 896202);
        Check.is("enough(1, 1): 1000000", desk.enough(1, 1), -2);
        desk.pays(0, 896203);
        enoughIs(desk, 1, 1, 999999);
        Check.is("enough(2, 1)", desk.enough(2, 1), -1);
        Check.is("enough(23, 22)", desk.enough(23, 22), -1);
        Check.is("enough(24, 24)", desk.enough(24, 24), -1);
        Check.is("enough(-1, 0)", desk.enough(-1, 0), -1);
        Check.is("enough(-1, -1)", desk.enough(-1, -1), -1);
    }

    private static void shiftsIs(WorksDesk desk, int month, int quantity, int many, long... row) {
        String name = "shifts(" + month + ", 0, " + quantity + ")";
        Check.is(name, desk.shifts(month, 0, quantity), many);
        Check.row(name, desk, row);
    }

    private static void shifts() {
        WorksDesk desk = Stories.bare();
        shiftsIs(desk, 0, 0, 0, -1, 0, 0);
        shiftsIs(desk, 0, 1, 1, 0, 10, 10);
        shiftsIs(desk, 23, 1999, 1, 23, 1150 + 1884 * 9, 1150 + 1884 * 9);
        desk.measures(3, 0, 10);
        desk.measures(6, 0, 20);
        shiftsIs(desk, 3, 10, 0, -1, 0, 0);
        shiftsIs(desk, 4, 10, 0, -1, 0, 0);
        shiftsIs(desk, 3, 11, 2, 3, 10, 0);
        shiftsIs(desk, 3, 0, 2, 3, -100, 0);
        shiftsIs(desk, 3, 21, 2, 3, 110, 10);
        shiftsIs(desk, 6, 0, 1, 6, -100, -100);
        shiftsIs(desk, 5, 15, 2, 5, 50, 0);
        shiftsIs(desk, 0, 1999, 3, 0, 1150 + 1884 * 9, 1150 + 1884 * 9 - 200);
        shiftsIs(desk, 23, 0, 0, -1, 0, 0);
        desk.handover(0);
        desk.closes(23);
        shiftsIs(desk, 23, 0, 1, 23, -200, -200);
        Check.is("what is told stays", desk.count(5), 2);
        Check.is("nothing is told in 23 by it", desk.strikes(23, 0), -2);
    }

    private static void wereIs(WorksDesk desk, int setOff, int month, long total, long interest) {
        String name = "were(" + setOff + ", " + month + ")";
        Check.is(name, desk.were(setOff, month), 0);
        Check.row(name, desk, total, interest);
    }

    /** WORK 1000 from MONTH 0 on, 400 are set off from 2 on: TOTAL stays 1000, since it was CERTIFIED ahead. */
    private static void were() {
        WorksDesk late = Stories.bare();
        late.measures(0, 0, 100);
        late.setsOff(2, 400);
        wereIs(late, 0, 2, 0, 0);
        WorksDesk desk = Stories.bare();
        desk.measures(2, 0, 100);
        desk.setsOff(2, 400);
        // 600 are CERTIFIED in 2: 6 a MONTH from 3 on
        Check.is("were ahead of its own MONTH", desk.were(0, 1), -1);
        wereIs(desk, 0, 2, 400, 4 * 21);
        wereIs(desk, 0, 3, 400, 4 * 20);
        wereIs(desk, 0, 22, 400, 4);
        wereIs(desk, 0, 23, 400, 0);
        desk.disputes(0, 4);
        wereIs(desk, 0, 4, 0, 0);
        wereIs(desk, 0, 2, 0, 4 * 2);
        wereIs(desk, 0, 23, 0, -4 * 19);
        desk.decides(0, 4, 1000);
        wereIs(desk, 0, 4, 400, 4 * 19);
        Check.is("it stays decided", desk.decides(0, 4, 1000), -3);
        Check.is("it stays disputed", desk.held(0, 4), 400);
        desk.handover(5);
        desk.closes(5);
        // never decided: nothing is set off at the end, either
        wereIs(desk, 0, 4, 400, 4 * 19);
        wereIs(desk, 0, 23, 400, 0);
    }

    private static void dearest() {
        WorksDesk desk = Stories.bare();
        desk.measures(2, 0, 100);
        Check.is("dearest() of none", desk.dearest(), -2);
        for (int amount : new int[] {100, 300, 200, 300, 10, 1}) {
            desk.setsOff(2, amount);
        }
        // 89 are CERTIFIED; with 300 more 389, which are 3 a MONTH
        Check.is("dearest(): of equal ones the first", desk.dearest(), 1);
        Check.row("dearest(): of equal ones the first", desk, 3 * 21);
        desk.disputes(1, 23);
        Check.is("dearest(): disputed ones are left out", desk.dearest(), 3);
        desk.disputes(3, 2);
        desk.decides(3, 2, 1000);
        Check.is("dearest(): decided ones, too", desk.dearest(), 2);
        desk.disputes(2, 2);
        desk.disputes(0, 2);
        desk.disputes(4, 2);
        Check.is("dearest() of the last", desk.dearest(), 5);
        desk.disputes(5, 2);
        Check.is("dearest(): all are disputed", desk.dearest(), -2);
        WorksDesk free = Stories.bare();
        free.setsOff(23, 5);
        free.setsOff(0, 5);
        Check.is("dearest() without INTEREST", free.dearest(), 0);
        Check.row("dearest() without INTEREST", free, 0);
    }

    private static void endsIs(WorksDesk desk, int due, long row) {
        Check.is("ends(0)", desk.ends(0), due);
        Check.row("ends(0)", desk, row);
    }

    private static void endsWhereItIsSo() {
        for (int month : new int[] {0, 1, 22, 23}) {
            WorksDesk desk = Check.desk("0:100*1");
            desk.measures(month, 0, 100);
            endsIs(desk, month, 0);
            desk.measures(month, 0, 1999);
            endsIs(desk, month, 0);
            desk.measures(month, 0, 99);
            endsIs(desk, month + 1, 99);
        }
        WorksDesk desk = Check.desk("0:100*1");
        desk.measures(3, 0, 100);
        desk.measures(4, 0, 0);
        endsIs(desk, 3, 0);
        desk.measures(6, 0, 200);
        endsIs(desk, 3, 0);
    }

    private static void endsGoingOn() {
        WorksDesk desk = Check.desk("0:100*1");
        Check.is("ends: nothing is told", desk.ends(0), -2);
        desk.measures(23, 0, 0);
        Check.is("ends: 0 is told alone", desk.ends(0), -3);
        desk.measures(23, 0, 1);
        endsIs(desk, 23 + 99, 1);
        desk.measures(23, 0, 50);
        endsIs(desk, 24, 50);
        desk.measures(23, 0, 49);
        endsIs(desk, 25, 49);
        desk.measures(20, 0, 47);
        Check.is("ends: 2 in three MONTHS, cut to 0", desk.ends(0), -3);
        desk.measures(20, 0, 46);
        endsIs(desk, 23 + 51, 1);
        desk.measures(20, 0, 44);
        endsIs(desk, 23 + 51, 1);
        desk.measures(20, 0, 43);
        endsIs(desk, 23 + 26, 2);
        desk.measures(20, 0, 49);
        Check.is("ends: by nothing", desk.ends(0), -3);
        desk.measures(20, 0, 50);
        Check.is("ends: by less, cut to nothing", desk.ends(0), -3);
        desk.measures(20, 0, 52);
        Check.is("ends: by less", desk.ends(0), -3);
        desk.measures(20, 0, 0);
        endsIs(desk, 23 + 4, 16);
        WorksDesk one = Check.desk("0:999*1");
        one.measures(0, 0, 0);
        one.measures(1, 0, 1);
        endsIs(one, 999, 1);
        one.measures(2, 0, 1);
        Check.is("ends: by nothing from the last but one", one.ends(0), -3);
    }

    private static void leadsIs(WorksDesk desk, int month, int due, long row) {
        Check.is("leads(" + month + ")", desk.leads(month), due);
        Check.row("leads(" + month + ")", desk, row);
    }

    private static void leads() {
        WorksDesk desk = Check.desk(Stories.TEN_ITEMS);
        leadsIs(desk, 0, 0, 0);
        desk.measures(0, 9, 1);
        leadsIs(desk, 0, 9, 999);
        leadsIs(desk, 1, 0, 0);
        desk.measures(0, 8, 1);
        leadsIs(desk, 0, 8, 999);
        desk.measures(1, 1, 7);
        leadsIs(desk, 1, 1, 7 * 999);
        for (int item = 0; item < 10; item++) {
            desk.measures(22, item, 20);
            desk.measures(23, item, item == 4 ? 19 : 18);
        }
        leadsIs(desk, 22, 0, 20 * 999);
        leadsIs(desk, 23, 4, -999);
        desk.change(0, 0, 999, 999);
        leadsIs(desk, 0, 8, 999);
    }

    private static void aboveIs(WorksDesk desk, int month, int due, long... row) {
        Check.is("above(" + month + ")", desk.above(month), due);
        Check.row("above(" + month + ")", desk, row);
    }

    /** QUANTITY 10 has CAP 11. */
    private static void above() {
        WorksDesk desk = Check.desk("0:10*1" + ";0:10*1".repeat(9));
        aboveIs(desk, 0, 0, 0, 0);
        desk.measures(0, 0, 10);
        desk.measures(0, 9, 10);
        aboveIs(desk, 0, 0, 0, 0);
        desk.measures(0, 0, 11);
        desk.measures(0, 9, 11);
        aboveIs(desk, 0, 513, 0, 0);
        desk.measures(0, 0, 12);
        desk.measures(0, 9, 12);
        aboveIs(desk, 0, 513, 513, 0);
        aboveIs(desk, 23, 513, 513, 0);
        desk.measures(23, 9, 11);
        aboveIs(desk, 22, 513, 513, 0);
        aboveIs(desk, 23, 513, 1, 512);
        desk.measures(1, 0, 12);
        aboveIs(desk, 1, 513, 513, 0);
        desk.measures(1, 0, 0);
        aboveIs(desk, 1, 512, 512, 1);
        aboveIs(desk, 2, 512, 512, 0);
        for (int item = 0; item < 10; item++) {
            desk.measures(5, item, 1999);
        }
        aboveIs(desk, 5, 1023, 1023, 0);
        Check.is("above(0) without ITEMS", new WorksDesk().above(0), 0);
    }

    private static void likeIs(WorksDesk desk, int kind, int rate, int due, long... row) {
        Check.is("like(" + kind + ", " + rate + ")", desk.like(kind, rate), due);
        Check.row("like(" + kind + ", " + rate + ")", desk, row);
    }

    private static void like() {
        likeIs(new WorksDesk(), 0, 0, 0, 0, 0, 0);
        likeIs(new WorksDesk(), 4, 999, 999, 0, 0, 0);
        likeIs(Check.desk(Stories.TEN_ITEMS), 4, 0, 999, 1023, 999, 999);
        likeIs(Check.desk(Stories.TEN_ITEMS), 3, 1, 1, 0, 0, 0);
        likeIs(Check.desk("2:1*9;2:1*5;2:1*7"), 2, 0, 7, 7, 5, 9);
        WorksDesk desk = Check.desk("0:1*1;4:2*5;0:1*999;4:1*5;4:1*3;0:1*500");
        likeIs(desk, 0, 7, 500, 37, 1, 999);
        likeIs(desk, 4, 7, 4, 26, 3, 5);
        Check.is("a CHANGE of that KIND", desk.change(0, 4, 1, 7), 0);
        Check.is("has that PRICE", desk.priced(0), 4);
    }

    private static void would() {
        for (int term = 0; term < 14; term++) {
            WorksDesk desk = Stories.bare();
            desk.lines(0);
            int[] wrong = {-1, Stories.TERM_MOST[term] + 1};
            for (int v : wrong) {
                Check.is("would(" + term + ", " + v + ")", desk.would(term, v), -1);
                Check.row("the ROW stays", desk, 0, 0, 0, 0, 0);
            }
            for (int v : new int[] {0, Stories.TERM_MOST[term], desk.count(10 + term)}) {
                Check.is("would(" + term + ", " + v + ")", desk.would(term, v), 0);
                Check.is("numbers of the ROW", desk.count(6), 2);
            }
            Check.row("a TERM as it is", desk, 0, 0);
        }
        WorksDesk desk = Stories.bare();
        desk.measures(0, 0, 100);
        long[][] due = {{0, 200, -50, -23}, {3, 300, 100, 23}, {7, 100, 0, 2070}, {7, 0, 0, -230}, {8, 0, 0, 10},
            {8, 6, 0, -50}};
        for (long[] d : due) {
            String name = "would(" + d[0] + ", " + d[1] + ")";
            Check.is(name, desk.would((int) d[0], (int) d[1]), 0);
            Check.row(name, desk, d[2], d[3]);
        }
    }

    private static void keepsIs(WorksDesk desk, int v, int due, long row) {
        Check.is("keeps(" + v + ")", desk.keeps(v), due);
        Check.row("keeps(" + v + ")", desk, row);
    }

    /** SUM and WORK 1000: KEEP is RETAINED, LIMIT 50 at most. */
    private static void keeps() {
        WorksDesk desk = Check.desk("0:100*10");
        Check.is("keeps(1) without WORK", desk.keeps(1), -2);
        desk.measures(23, 0, 100);
        keepsIs(desk, 1, 1, 1);
        keepsIs(desk, 50, 50, 50);
        Check.is("keeps(51): above the limit", desk.keeps(51), -2);
        desk.terms(1, 200);
        keepsIs(desk, 51, 51, 51);
        keepsIs(desk, 200, 200, 200);
        Check.is("keeps(201)", desk.keeps(201), -2);
        Check.is("keeps(0)", desk.keeps(0), -1);
        Check.is("keeps(-1)", desk.keeps(-1), -1);
        desk.measures(5, 0, 150);
        // WORK 1465 in 5: 199.2 and 200.7
        keepsIs(desk, 200, 137, 200);
        desk.handover(0);
        Check.is("keeps(101): half of 200 from HANDOVER on", desk.keeps(101), -2);
        desk.closes(5);
        Check.is("keeps(1): 0 from FINAL on", desk.keeps(1), -2);
        WorksDesk below = Check.desk("0:100*10");
        below.change(0, 1, -999, 999);
        Check.is("keeps(1), WORK below 0", below.keeps(1), -2);
        WorksDesk first = Check.desk("0:100*10");
        first.measures(0, 0, 50);
        first.measures(1, 0, 0);
        keepsIs(first, 50, 100, 50);
        WorksDesk large = Check.desk("0:200*10");
        large.terms(1, 200);
        large.measures(0, 0, 100);
        keepsIs(large, 200, 200, 200);
        Check.is("keeps(201): KEEP would be 201", large.keeps(201), -2);
    }

    private static WorksDesk late(int due) {
        WorksDesk desk = Check.desk("0:100*10");
        desk.terms(11, 10);
        desk.due(due);
        return desk;
    }

    private static void overdueIs(WorksDesk desk, int due, long... row) {
        Check.is("overdue()", desk.overdue(), due);
        Check.row("overdue()", desk, row);
    }

    /** 10 a MONTH, 100 at most. */
    private static void overdue() {
        overdueIs(late(0), 23, 100, 10);
        overdueIs(late(12), 11, 100, 22);
        overdueIs(late(13), 10, 100, 23);
        overdueIs(late(14), 9, 90, -1);
        overdueIs(late(22), 1, 10, -1);
        overdueIs(late(23), 0, 0, -1);
        WorksDesk desk = late(11);
        desk.grants(11);
        overdueIs(desk, 1, 10, -1);
        desk.grants(1);
        overdueIs(desk, 0, 0, -1);
        desk.due(23);
        overdueIs(desk, 0, 0, -1);
        WorksDesk handed = late(5);
        handed.handover(15);
        overdueIs(handed, 10, 100, 15);
        handed.handover(14);
        overdueIs(handed, 9, 90, -1);
        handed.handover(6);
        overdueIs(handed, 1, 10, -1);
        handed.handover(5);
        overdueIs(handed, 0, 0, -1);
        handed.handover(0);
        overdueIs(handed, 0, 0, -1);
        handed.handover(23);
        handed.terms(12, 0);
        overdueIs(handed, 18, 0, -1);
        handed.terms(12, 1);
        overdueIs(handed, 18, 1, 6);
        handed.terms(11, 0);
        overdueIs(handed, 18, 0, -1);
    }

    private static void neededIs(WorksDesk desk, int due, long row) {
        Check.is("needed()", desk.needed(), due);
        Check.row("needed()", desk, row);
    }

    private static void needed() {
        neededIs(late(23), 0, 0);
        neededIs(late(22), 1, 0);
        neededIs(late(0), 23, 0);
        WorksDesk desk = late(0);
        desk.measures(23, 0, 100);
        // NET in 23: 1000 and 100 less 50, 100 and 100
        neededIs(desk, 23, 100);
        desk.grants(12);
        neededIs(desk, 11, 100);
        desk.due(11);
        neededIs(desk, 0, 0);
        desk.due(10);
        neededIs(desk, 1, 10);
        desk.handover(22);
        neededIs(desk, 0, 0);
        WorksDesk handed = late(5);
        handed.handover(6);
        neededIs(handed, 1, 0);
        handed.handover(5);
        neededIs(handed, 0, 0);
        handed.handover(23);
        neededIs(handed, 18, 0);
        handed.terms(12, 0);
        neededIs(handed, 0, 0);
        handed.terms(12, 1);
        neededIs(handed, 18, 0);
        handed.terms(12, 100);
        handed.terms(11, 0);
        neededIs(handed, 0, 0);
    }

    private static void risesIs(WorksDesk desk, int month, int v, long... row) {
        Check.is("rises(" + month + ", " + v + ")", desk.rises(month, v), 0);
        Check.row("rises(" + month + ", " + v + ")", desk, row);
    }

    private static void rises() {
        WorksDesk desk = Stories.bare();
        desk.terms(13, 1000);
        desk.measures(0, 0, 40);
        desk.measures(23, 0, 100);
        risesIs(desk, 0, 2000, 1000, 1000);
        risesIs(desk, 0, 500, -500, -500);
        risesIs(desk, 0, 1000, 0, 0);
        risesIs(desk, 1, 2000, 600, 600);
        risesIs(desk, 23, 2000, 600, 600);
        risesIs(desk, 23, 500, -300, -300);
        desk.indexes(23, 1500);
        risesIs(desk, 23, 1500, 0, 0);
        risesIs(desk, 23, 501, -599, -599);
        risesIs(desk, 22, 2000, 0, 0);
        risesIs(desk, 0, 2000, 400, 400);
        desk.terms(13, 0);
        risesIs(desk, 0, 2000, 0, 0);
        Check.is("rises(0, 499)", desk.rises(0, 499), -1);
        Check.is("rises(0, 2001)", desk.rises(0, 2001), -1);
        Check.is("rises(24, 1000)", desk.rises(24, 1000), -1);
        Check.is("rises(-1, 1000)", desk.rises(-1, 1000), -1);
        desk.terms(13, 1000);
        desk.measures(23, 0, 0);
        // 400 less at 1.5: NET falls below what was CERTIFIED, so that TOTAL stays
        risesIs(desk, 23, 2000, 0, -200);
    }

    private static void accountIs(WorksDesk desk, long... row) {
        Check.is("account()", desk.account(), 0);
        Check.row("account()", desk, row);
    }

    private static void account() {
        WorksDesk desk = Stories.bare();
        desk.measures(0, 0, 100);
        desk.setsOff(0, 300);
        desk.handover(0);
        Check.is("account(): FINAL is not told", desk.account(), -2);
        desk.closes(0);
        accountIs(desk, 1000, 300, 0, 700, 0);
        desk.pays(0, 700);
        accountIs(desk, 1000, 300, 700, 0, 0);
        desk.pays(0, 701);
        accountIs(desk, 1000, 300, 701, -1, 0);
        desk.pays(0, 0);
        desk.pays(1, 100);
        desk.pays(23, 50);
        accountIs(desk, 1000, 300, 0, 700, 0);
        desk.closes(1);
        accountIs(desk, 1000, 300, 100, 600, 6);
        desk.closes(22);
        accountIs(desk, 1000, 300, 100, 600, 6 * 22);
        desk.closes(23);
        accountIs(desk, 1000, 300, 150, 550, 6 * 22 + 5);
        desk.change(23, 1, -999, 1);
        accountIs(desk, 1, 300, 150, -299 - 150, 6 * 22 + 5);
    }

    private static void count() {
        WorksDesk desk = new WorksDesk();
        Check.is("count(-1)", desk.count(-1), -1);
        Check.is("count(24)", desk.count(24), -1);
        Check.is("count(10) is KEEP", desk.count(10), 100);
        Check.is("count(23) is FOLLOW", desk.count(23), 0);
        desk.terms(13, 7);
        Check.is("count(23) is FOLLOW", desk.count(23), 7);
        Check.is("HANDOVER not told", desk.count(3), -1);
        Check.is("FINAL not told", desk.count(4), -1);
        Check.is("DUE not told", desk.count(8), -1);
        desk.handover(0);
        desk.closes(0);
        Check.is("HANDOVER in 0", desk.count(3), 0);
        Check.is("FINAL in 0", desk.count(4), 0);
        desk.due(0);
        Check.is("DUE in 0", desk.count(8), 0);
        desk.grants(12);
        Check.is("DUE with 12 GRANTED", desk.count(8), 12);
        Check.is("12 GRANTED", desk.count(9), 12);
        Check.bill(desk, Stories.TEN_ITEMS);
        Check.is("ten ITEMS", desk.count(0), 10);
        Check.is("MONTHS MEASURED at first", desk.count(5), 0);
        for (int month = 0; month < 24; month++) {
            desk.measures(month, 9, 0);
            Check.is("MONTHS MEASURED, of the tenth ITEM", desk.count(5), month + 1);
        }
        desk.measures(3, 0, 5);
        Check.is("a MONTH counts once", desk.count(5), 24);
        desk.strikes(3, 9);
        Check.is("a MONTH counts by one ITEM", desk.count(5), 24);
        desk.strikes(3, 0);
        Check.is("a MONTH struck does not count", desk.count(5), 23);
    }

    /** How many numbers each call tells of: just those can be asked for. */
    private static void row() {
        WorksDesk desk = new WorksDesk();
        Stories.full(desk);
        Twins.Call[] calls = {d -> d.item(0, 0), d -> d.priced(0), d -> d.held(0, 0), d -> d.sum(), d -> d.lines(0),
            d -> d.reaches(1), d -> d.worst(), d -> d.clears(0), d -> d.paces(0, 999999), d -> d.enough(0, 23),
            d -> d.shifts(0, 0, 1), d -> d.were(0, 23), d -> d.dearest(), d -> d.ends(1), d -> d.leads(0), d -> d.above(0),
            d -> d.like(0, 0), d -> d.would(0, 0), d -> d.keeps(1), d -> d.overdue(), d -> d.needed(),
            d -> d.rises(0, 1000), d -> d.account()};
        int[] numbers = {3, 5, 5, 4, 5, 1, 2, 2, 1, 1, 3, 2, 1, 1, 1, 2, 3, 2, 1, 2, 1, 2, 5};
        for (int i = 0; i < calls.length; i++) {
            Check.is("call " + i + " is no refusal", calls[i].on(desk) >= 0, true);
            Check.is("numbers of call " + i, desk.count(6), numbers[i]);
            Check.is("row(-1) behind call " + i + " throws", Check.throwsAtRow(desk, -1), true);
            Check.is("row(0) behind call " + i, Check.throwsAtRow(desk, 0), false);
            Check.is("the last number of call " + i, Check.throwsAtRow(desk, numbers[i] - 1), false);
            Check.is("behind the last number of call " + i, Check.throwsAtRow(desk, numbers[i]), true);
            desk.lines(0);
        }
    }
}
