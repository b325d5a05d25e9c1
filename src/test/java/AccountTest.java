/** Promises 45 to 47: the final account, counts and the ROW. */
public final class AccountTest {
    public static void main(String[] args) {
        account();
        certificatesAddUp();
        count();
        row();
        Check.end("AccountTest");
    }

    private static WorksDesk closed() {
        WorksDesk desk = Check.desk("0:100*10");
        desk.measures(0, 0, 50);
        desk.measures(2, 0, 100);
        desk.setsOff(1, 100);
        desk.disputes(0, 3);
        desk.decides(0, 5, 400);
        desk.handover(6);
        Check.is("account(): FINAL is not told", desk.account(), -2);
        desk.closes(7);
        return desk;
    }

    private static void account() {
        WorksDesk desk = closed();
        Check.is("account()", desk.account(), 0);
        Check.row("account()", desk, 1000, 40, 0, 960, 4 + 4 + 8 + 9 * 4);
        desk.pays(7, 1000);
        desk.pays(8, 77);
        desk.measures(9, 0, 10);
        Check.is("account()", desk.account(), 0);
        Check.row("account(): too much is PAID", desk, 1000, 40, 1000, -40, 4 + 4 + 8 + 9 * 3);
        Check.bill(desk, "0:1*1");
        Check.is("account(): FINAL went", desk.account(), -2);
        Check.row("the ROW stays", desk, 1000, 40, 1000, -40, 43);
    }

    private static void certificatesAddUp() {
        WorksDesk desk = closed();
        desk.stores(2, 9999);
        desk.due(3);
        desk.terms(11, 17);
        desk.terms(13, 777);
        desk.indexes(1, 1234);
        long certified = 0;
        for (int month = 0; month <= 7; month++) {
            certified += desk.amount(month, 7);
        }
        Check.is("all CERTIFIED till FINAL", certified, desk.amount(7, 6));
        Check.is("TOTAL of FINAL", desk.amount(7, 8), desk.amount(7, 6));
    }

    private static void count() {
        WorksDesk desk = Check.desk("0:100*10;1:5*5");
        desk.sign(0);
        desk.end(3);
        desk.measures(2, 0, 1);
        desk.measures(2, 1, 1);
        desk.measures(4, 1, 1);
        desk.change(0, 0, 1, 1);
        desk.setsOff(0, 1);
        desk.setsOff(0, 1);
        desk.handover(11);
        desk.closes(12);
        desk.due(9);
        desk.grants(3);
        desk.item(0, 0);
        int[] due = {2, 1, 2, 11, 12, 2, 3, 3, 12, 3, 100, 50, 500, 100, 200, 250, 800, 10, 1, 150, 900, 0, 100, 0};
        for (int what = 0; what < due.length; what++) {
            Check.is("count(" + what + ")", desk.count(what), due[what]);
        }
        Check.is("count(-1)", desk.count(-1), -1);
        Check.is("count(24)", desk.count(24), -1);
        Check.is("count(MAX)", desk.count(Integer.MAX_VALUE), -1);
        Check.is("count(MIN)", desk.count(Integer.MIN_VALUE), -1);
        desk.strikes(2, 0);
        Check.is("count(5): one of two", desk.count(5), 2);
        desk.strikes(2, 1);
        Check.is("count(5): none of two", desk.count(5), 1);
    }

    private static void row() {
        WorksDesk desk = new WorksDesk();
        Check.row("a new ROW", desk);
        Check.is("row(MIN) throws", Check.throwsAtRow(desk, Integer.MIN_VALUE), true);
        desk.lines(0);
        Check.row("five numbers", desk, 0, 0, 0, 0, 0);
        desk.sum();
        Check.row("four numbers", desk, 0, 0, 0, 2424);
        desk.worst();
        Check.row("two numbers", desk, 0, 0);
        Check.is("row(MAX) throws", Check.throwsAtRow(desk, Integer.MAX_VALUE), true);
    }
}
