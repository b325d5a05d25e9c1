/** Desks that several tests ask about. */
final class Stories {
    static final int[] TERM_MOST = {200, 200, 1000, 300, 500, 1000, 1000, 100, 6, 500, 1000, 50, 200, 1000};
    static final int[] TERM_AT_FIRST = {100, 50, 500, 100, 200, 250, 800, 10, 1, 150, 900, 0, 100, 0};
    /** Ten ITEMS as long as they can be: 99 signs. */
    static final String TEN_ITEMS = "4:999*999" + ";4:999*999".repeat(9);

    private Stories() {
    }

    /** Of all that can be told something is told, and as much as can be; THE TEXT has five signs, the ROW five numbers. */
    static void full(WorksDesk desk) {
        Check.bill(desk, "0:100*10;1:50*20;0:20*33");
        someTerms(desk);
        desk.measures(0, 0, 40);
        desk.measures(1, 1, 30);
        desk.measures(2, 2, 25);
        desk.measures(3, 0, 20);
        desk.measures(5, 1, 60);
        desk.stores(1, 555);
        desk.stores(4, 99);
        for (int change = 0; change < 8; change++) {
            desk.change(change + 1, change % 5, change % 2 == 0 ? change + 1 : -change, 10 * change);
        }
        sixSetOffs(desk);
        desk.handover(8);
        desk.closes(12);
        desk.pays(2, 700);
        desk.pays(5, 30);
        desk.due(4);
        desk.grants(2);
        desk.grants(10);
        desk.indexes(1, 1100);
        desk.indexes(6, 900);
        Check.text(desk, "1:7*8");
        desk.lines(2);
    }

    static void someTerms(WorksDesk desk) {
        desk.terms(0, 120);
        desk.terms(7, 13);
        desk.terms(8, 2);
        desk.terms(11, 10);
        desk.terms(13, 300);
    }

    /** 0, 3 and 5 are not disputed, 1 is, 2 and 4 are decided. */
    private static void sixSetOffs(WorksDesk desk) {
        for (int setOff = 0; setOff < 6; setOff++) {
            desk.setsOff(setOff + 2, 100 + setOff);
        }
        desk.disputes(1, 5);
        desk.disputes(2, 4);
        desk.decides(2, 7, 400);
        desk.disputes(4, 9);
        desk.decides(4, 9, 1000);
    }

    /** Something is told, but no CHANGE, SET-OFF, HANDOVER, FINAL, DUE; THE TEXT has a sign, the ROW four numbers. */
    static void begun(WorksDesk desk) {
        Check.bill(desk, "3:10*7;3:5*9");
        desk.measures(4, 1, 2);
        desk.stores(3, 50);
        desk.indexes(2, 1200);
        desk.pays(6, 5);
        Check.text(desk, "9");
        desk.sum();
    }

    /** KEEP and ADVANCE are 0, so that TOTAL is WORK as long as that grows: SUM 1000, RATE 10. */
    static WorksDesk bare() {
        WorksDesk desk = Check.desk("0:100*10");
        desk.terms(0, 0);
        desk.terms(3, 0);
        return desk;
    }
}
