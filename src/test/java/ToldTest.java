/** Promises 1 to 19: what is told. */
public final class ToldTest {
    public static void main(String[] args) {
        newObject();
        signAndEnd();
        billsThatStand();
        billsThatAreRefused();
        billForgets();
        terms();
        measures();
        strikes();
        stores();
        changes();
        alters();
        setsOff();
        disputes();
        decides();
        handoverAndFinal();
        pays();
        dueAndGrants();
        indexes();
        refusalsKeepTheRow();
        Check.end("ToldTest");
    }

    private static void newObject() {
        WorksDesk desk = new WorksDesk();
        int[] due = {0, 0, 0, -1, -1, 0, 0, 0, -1, 0, 100, 50, 500, 100, 200, 250, 800, 10, 1, 150, 900, 0, 100, 0};
        for (int what = 0; what < due.length; what++) {
            Check.is("new: count(" + what + ")", desk.count(what), due[what]);
        }
        for (int what = 0; what < 15; what++) {
            Check.is("new: amount(23, " + what + ")", desk.amount(23, what), 0);
        }
        Check.is("new: sum()", new WorksDesk().sum(), 0);
        Check.is("new: row(0) throws", Check.throwsAtRow(desk, 0), true);
        Check.is("NONE", WorksDesk.NONE, -1);
    }

    private static void signAndEnd() {
        WorksDesk desk = new WorksDesk();
        for (int i = 1; i <= 30; i++) {
            Check.is("sign " + i, desk.sign(0x30303030), 4 * i);
        }
        Check.is("sign above 120", desk.sign(0), -1);
        Check.is("count(7) of 120", desk.count(7), 120);
        Check.is("end(121)", desk.end(121), false);
        Check.is("end(-1)", desk.end(-1), false);
        Check.is("count(7) behind refused end", desk.count(7), 120);
        Check.is("end(120)", desk.end(120), true);
        Check.is("end(117)", desk.end(117), true);
        Check.is("sign above 120 by 1", desk.sign(0), -1);
        Check.is("end(116)", desk.end(116), true);
        Check.is("sign to 120", desk.sign(0), 120);
        Check.is("end(0)", desk.end(0), true);
        Check.is("end(1) of none", desk.end(1), false);
        Check.is("sign: highest byte first", desk.sign(0x343A312A), 4);
        Check.is("sign: highest byte first, behind", desk.sign(0x39FFFFFF), 8);
        desk.end(5);
        Check.is("bill of 4:1*9", desk.bill(), 1);
        Check.is("sum of 4:1*9", desk.sum(), 9);
    }

    private static void billsThatStand() {
        WorksDesk desk = new WorksDesk();
        Check.is("bill 0:999*999", Check.bill(desk, "0:999*999"), 1);
        Check.is("sum 0:999*999", desk.sum(), 998001);
        Check.is("bill empties THE TEXT", desk.count(7), 0);
        Check.is("bill with zeros ahead", Check.bill(desk, "4:007*010;1:2*3"), 2);
        Check.is("sum with zeros ahead", desk.sum(), 76);
        String ten = "4:999*999;4:999*999;4:999*999;4:999*999;4:999*999;4:999*999;4:999*999;4:999*999;4:999*999;4:999*999";
        Check.is("bill of ten", Check.bill(desk, ten), 10);
        Check.is("sum of ten", desk.sum(), 9980010);
        Check.is("bill of eleven", Check.bill(desk, ten + ";0:1*1"), -1 - 99);
        Check.is("ten stay", desk.count(0), 10);
        Check.is("empty bill", desk.bill(), 0);
        Check.is("no ITEMS", desk.count(0), 0);
    }

    private static void billsThatAreRefused() {
        String[] texts = {"5:1*1", "a", ";", "0", "0;1*1", "0:", "0:*1", "0:1", "0:1;", "0:0*1", "0:00*1", "0:000*1",
            "0:0000*1", "0:0", "0:1234*1", "0:1*", "0:1*;", "0:1*0", "0:1*000", "0:1*00;1:1*1", "0:1*1234", "0:1*1x",
            "0:1*1;", "0:1*1;5", "0:1*1;;", "0:1*1;0:1*0", " 0:1*1", "0:1*1 ", "0:-1*1", "00:1*1",
            "0:1*1" + (char) 187, "" + (char) 0,
            "0:0001*1", "0:00000*1", "0:0000", "0:000", "0:000x", "0:1*0000", "0:1*0000:1", "0:1*0001", "0:1*00000",
            "0:1*0000;1:1*1", "0:1*000;1:1*1", "0:1*000x", "0:0109*1", "0:1*1;2:1*0000"};
        int[] places = {0, 0, 0, 1, 1, 2, 2, 3, 3, 2, 3, 4, 5, 2, 5, 4, 4, 4, 6, 5, 7, 5, 6, 6, 6, 10, 0, 5, 2, 1, 5, 0,
            5, 5, 5, 4, 4, 7, 7, 7, 7, 7, 6, 6, 5, 13};
        for (int i = 0; i < texts.length; i++) {
            WorksDesk desk = Check.desk("3:4*5;2:1*1");
            desk.measures(1, 1, 7);
            desk.sum();
            Check.is("bill of " + texts[i], Check.bill(desk, texts[i]), -1 - places[i]);
            Check.is("signs behind a refused bill", desk.count(7), 0);
            Check.is("ITEMS behind a refused bill", desk.count(0), 2);
            Check.is("DONE behind a refused bill", desk.item(1, 1), 7);
            Check.is("SUM behind a refused bill", desk.sum(), 21);
        }
    }

    private static void billForgets() {
        WorksDesk desk = Check.desk("0:10*10;1:10*10");
        desk.terms(0, 77);
        desk.terms(11, 50);
        desk.terms(13, 1000);
        desk.measures(0, 0, 5);
        desk.measures(0, 1, 5);
        desk.stores(0, 100);
        desk.change(0, 0, 5, 5);
        desk.setsOff(0, 10);
        desk.disputes(0, 0);
        desk.decides(0, 0, 500);
        desk.handover(5);
        desk.closes(6);
        desk.pays(0, 9);
        desk.due(0);
        desk.grants(2);
        desk.indexes(0, 2000);
        desk.sum();
        Check.is("bill anew", Check.bill(desk, "0:10*10;1:10*10"), 2);
        Check.row("the ROW stays with bill()", desk, 20, 10, 2, 506);
        Check.is("a TERM stays", desk.count(10), 77);
        int[] due = {2, 0, 0, -1, -1, 0, 4, 0, -1, 0};
        for (int what = 0; what < due.length; what++) {
            Check.is("bill anew: count(" + what + ")", desk.count(what), due[what]);
        }
        for (int what = 0; what < 6; what++) {
            Check.is("bill anew: amount(23, " + what + ")", desk.amount(23, what), 0);
        }
        Check.is("bill anew: PAID", desk.amount(23, 12), 0);
        Check.is("bill anew: DAMAGES", desk.amount(23, 13), 0);
        Check.is("bill anew: ADJUSTED", desk.amount(23, 14), 0);
        Check.is("bill anew: INDEX", desk.indexes(0, 1500), 1000);
        Check.is("bill anew: strikes", desk.strikes(0, 0), -2);
        Check.is("bill anew: strikes", desk.strikes(0, 1), -2);
        Check.is("bill anew: DUE", desk.due(0), 24);
        desk.setsOff(0, 10);
        Check.is("bill anew: a new SET-OFF is not disputed", desk.held(0, 23), 10);
        Check.row("bill anew: held", desk, 0, 10, -1, -1, 0);
    }

    private static void terms() {
        int[] most = {200, 200, 1000, 300, 500, 1000, 1000, 100, 6, 500, 1000, 50, 200, 1000};
        int[] first = {100, 50, 500, 100, 200, 250, 800, 10, 1, 150, 900, 0, 100, 0};
        WorksDesk desk = new WorksDesk();
        for (int term = 0; term < most.length; term++) {
            Check.is("terms as at first " + term, desk.terms(term, first[term]), -2);
            Check.is("terms below 0 " + term, desk.terms(term, -1), -1);
            Check.is("terms too great " + term, desk.terms(term, most[term] + 1), -1);
            Check.is("refused terms keep " + term, desk.count(10 + term), first[term]);
            Check.is("terms greatest " + term, desk.terms(term, most[term]), first[term]);
            Check.is("terms greatest again " + term, desk.terms(term, most[term]), -2);
            Check.is("terms 0 " + term, desk.terms(term, 0), most[term]);
            Check.is("terms told " + term, desk.count(10 + term), 0);
        }
        Check.is("terms(14, 0)", desk.terms(14, 0), -1);
        Check.is("terms(-1, 0)", desk.terms(-1, 0), -1);
        Check.is("terms(MIN, 0)", desk.terms(Integer.MIN_VALUE, 0), -1);
    }

    private static void measures() {
        WorksDesk desk = Check.desk("0:100*10;1:50*20");
        Check.is("measures(3, 0, 20)", desk.measures(3, 0, 20), 0);
        Check.is("measures(3, 0, 20) again", desk.measures(3, 0, 20), -2);
        Check.is("measures(5, 0, 20): DONE is so, but not told there", desk.measures(5, 0, 20), 20);
        Check.is("measures(5, 0, 20) again", desk.measures(5, 0, 20), -2);
        Check.is("measures(1, 0, 0): 0 is told", desk.measures(1, 0, 0), 0);
        Check.is("measures(1, 0, 0) again", desk.measures(1, 0, 0), -2);
        Check.is("measures(5, 0, 1999)", desk.measures(5, 0, 1999), 20);
        Check.is("DONE in 4", desk.item(4, 0), 20);
        Check.is("DONE in 23", desk.item(23, 0), 1999);
        Check.is("DONE of the other", desk.item(23, 1), 0);
        int[][] wrong = {{-1, 0, 1}, {24, 0, 1}, {0, -1, 1}, {0, 2, 1}, {0, 10, 1}, {0, 0, -1}, {0, 0, 2000}};
        for (int[] call : wrong) {
            Check.is("measures, wrong", desk.measures(call[0], call[1], call[2]), -1);
        }
        Check.is("months measured", desk.count(5), 3);
    }

    private static void strikes() {
        WorksDesk desk = Check.desk("0:100*10;1:50*20");
        desk.measures(2, 0, 30);
        desk.measures(4, 0, 50);
        desk.measures(4, 1, 5);
        Check.is("strikes(3, 0)", desk.strikes(3, 0), -2);
        Check.is("strikes(2, 1)", desk.strikes(2, 1), -2);
        Check.is("strikes(4, 0)", desk.strikes(4, 0), 30);
        Check.is("strikes(4, 0) again", desk.strikes(4, 0), -2);
        Check.is("DONE behind it", desk.item(23, 0), 30);
        Check.is("months measured", desk.count(5), 2);
        Check.is("strikes(2, 0)", desk.strikes(2, 0), 0);
        Check.is("DONE without", desk.item(23, 0), 0);
        Check.is("the other stays", desk.item(23, 1), 5);
        desk.measures(0, 0, 3);
        desk.measures(1, 0, 4);
        Check.is("strikes(1, 0)", desk.strikes(1, 0), 3);
        int[][] wrong = {{-1, 0}, {24, 0}, {0, -1}, {0, 2}};
        for (int[] call : wrong) {
            Check.is("strikes, wrong", desk.strikes(call[0], call[1]), -1);
        }
    }

    private static void stores() {
        WorksDesk desk = Check.desk("0:100*10");
        Check.is("stores(2, 1001)", desk.stores(2, 1001), 0);
        Check.is("stores(2, 1001) again", desk.stores(2, 1001), -2);
        Check.is("stores(5, 99999)", desk.stores(5, 99999), 1001);
        Check.is("stores(5, 0)", desk.stores(5, 0), 99999);
        Check.is("stores(5, 0) again", desk.stores(5, 0), -2);
        Check.is("stores(1, 7)", desk.stores(1, 7), 0);
        Check.is("stores(0, 0): 0 is told", desk.stores(0, 0), 0);
        Check.is("stores(0, 0) again", desk.stores(0, 0), -2);
        Check.is("MATERIALS in 4", desk.amount(4, 2), 800);
        Check.is("MATERIALS in 5", desk.amount(5, 2), 0);
        int[][] wrong = {{-1, 0}, {24, 0}, {0, -1}, {0, 100000}};
        for (int[] call : wrong) {
            Check.is("stores, wrong", desk.stores(call[0], call[1]), -1);
        }
    }

    private static void changes() {
        WorksDesk desk = Check.desk("0:100*10;0:50*20");
        int[][] wrong = {{-1, 0, 1, 1}, {24, 0, 1, 1}, {0, -1, 1, 1}, {0, 5, 1, 1}, {0, 0, 0, 1}, {0, 0, -1000, 1},
            {0, 0, 1000, 1}, {0, 0, 1, -1}, {0, 0, 1, 1000}};
        for (int[] call : wrong) {
            Check.is("change, wrong", desk.change(call[0], call[1], call[2], call[3]), -1);
        }
        Check.is("no CHANGES", desk.count(1), 0);
        for (int i = 0; i < 8; i++) {
            Check.is("change " + i, desk.change(23, i % 5, i % 2 == 0 ? 999 : -999, i == 0 ? 0 : 999), i);
        }
        Check.is("a ninth", desk.change(0, 0, 1, 1), -2);
        Check.is("a ninth, wrong", desk.change(0, 0, 0, 1), -1);
        Check.is("eight CHANGES", desk.count(1), 8);
        Check.is("VARIED in 22", desk.amount(22, 1), 0);
        Check.is("VARIED in 23", desk.amount(23, 1), 999 * 13 - 999 * 999 + 999 * 999 - 999 * 999 + 999 * 999 - 999 * 13
            + 999 * 999 - 999 * 999);
    }

    private static void alters() {
        WorksDesk desk = Check.desk("0:100*10");
        desk.change(1, 0, 5, 0);
        desk.change(2, 1, 6, 7);
        Check.is("alters(0, 5)", desk.alters(0, 5), -2);
        Check.is("alters(0, -999)", desk.alters(0, -999), 5);
        Check.is("alters(0, 999)", desk.alters(0, 999), -999);
        Check.is("alters(1, 8)", desk.alters(1, 8), 6);
        Check.is("VARIED in 1", desk.amount(1, 1), 9990);
        Check.is("VARIED in 2", desk.amount(2, 1), 10046);
        int[][] wrong = {{-1, 1}, {2, 1}, {8, 1}, {0, 0}, {0, -1000}, {0, 1000}};
        for (int[] call : wrong) {
            Check.is("alters, wrong", desk.alters(call[0], call[1]), -1);
        }
    }

    private static void setsOff() {
        WorksDesk desk = Check.desk("0:100*10");
        int[][] wrong = {{-1, 1}, {24, 1}, {0, 0}, {0, -5}, {0, 100000}};
        for (int[] call : wrong) {
            Check.is("setsOff, wrong", desk.setsOff(call[0], call[1]), -1);
        }
        Check.is("no SET-OFFS", desk.count(2), 0);
        for (int i = 0; i < 6; i++) {
            Check.is("setsOff " + i, desk.setsOff(i, i == 0 ? 99999 : 1), i);
        }
        Check.is("a seventh", desk.setsOff(0, 1), -2);
        Check.is("a seventh, wrong", desk.setsOff(24, 1), -1);
        Check.is("six SET-OFFS", desk.count(2), 6);
        Check.is("SET in 0", desk.amount(0, 5), 99999);
        Check.is("SET in 5", desk.amount(5, 5), 100004);
    }

    private static void disputes() {
        WorksDesk desk = Check.desk("0:100*10");
        desk.setsOff(3, 100);
        desk.setsOff(0, 50);
        int[][] wrong = {{-1, 5}, {2, 5}, {6, 5}, {0, -1}, {0, 24}, {0, 2}};
        for (int[] call : wrong) {
            Check.is("disputes, wrong", desk.disputes(call[0], call[1]), -1);
        }
        Check.is("disputes(0, 3)", desk.disputes(0, 3), 1);
        Check.is("disputes(0, 4): it is disputed", desk.disputes(0, 4), -2);
        Check.is("disputes(0, 2): NONE ahead of -2", desk.disputes(0, 2), -1);
        Check.is("disputes(1, 23)", desk.disputes(1, 23), 2);
        desk.decides(0, 5, 0);
        Check.is("disputes of a decided one", desk.disputes(0, 8), -2);
        Check.is("HELD in 2", desk.held(0, 2), 0);
        Check.is("HELD in 3", desk.held(0, 3), 0);
        Check.is("HELD in 22", desk.held(1, 22), 50);
        Check.is("HELD in 23", desk.held(1, 23), 0);
        desk.setsOff(1, 5);
        Check.is("decided ones do not count", desk.disputes(2, 1), 2);
    }

    private static void decides() {
        WorksDesk desk = Check.desk("0:100*10");
        desk.setsOff(1, 999);
        Check.is("decides: not disputed", desk.decides(0, 0, 5), -2);
        int[][] wrong = {{-1, 5, 5}, {1, 5, 5}, {0, -1, 5}, {0, 24, 5}, {0, 5, -1}, {0, 5, 1001}};
        for (int[] call : wrong) {
            Check.is("decides, wrong", desk.decides(call[0], call[1], call[2]), -1);
        }
        desk.disputes(0, 3);
        Check.is("decides ahead of the dispute", desk.decides(0, 2, 5), -1);
        Check.is("decides(0, 3, 333)", desk.decides(0, 3, 333), 332);
        Check.is("decides again", desk.decides(0, 3, 333), -3);
        Check.is("decides again, ahead of the dispute", desk.decides(0, 2, 333), -1);
        Check.is("decides again, wrong", desk.decides(0, 3, 1001), -1);
        Check.is("HELD in 0", desk.held(0, 0), 0);
        Check.is("HELD in 2", desk.held(0, 2), 999);
        Check.is("HELD in 3", desk.held(0, 3), 332);
        desk.setsOff(0, 99999);
        desk.disputes(1, 0);
        Check.is("decides upheld whole", desk.decides(1, 4, 1000), 99999);
        desk.setsOff(0, 7);
        desk.disputes(2, 0);
        Check.is("decides upheld 0", desk.decides(2, 23, 0), 0);
    }

    private static void handoverAndFinal() {
        WorksDesk desk = Check.desk("0:100*10");
        Check.is("closes without handover", desk.closes(23), -3);
        Check.is("handover(-1)", desk.handover(-1), -1);
        Check.is("handover(24)", desk.handover(24), -1);
        Check.is("closes(-1)", desk.closes(-1), -1);
        Check.is("closes(24)", desk.closes(24), -1);
        Check.is("handover(7)", desk.handover(7), 24);
        Check.is("handover(7) again", desk.handover(7), -2);
        Check.is("handover(9)", desk.handover(9), 7);
        Check.is("closes(8)", desk.closes(8), -3);
        Check.is("closes(9)", desk.closes(9), 24);
        Check.is("closes(9) again", desk.closes(9), -2);
        Check.is("handover(10)", desk.handover(10), -3);
        Check.is("closes(23)", desk.closes(23), 9);
        Check.is("handover(23)", desk.handover(23), 9);
        Check.is("handover(0)", desk.handover(0), 23);
        Check.is("closes(0)", desk.closes(0), 23);
        Check.is("count(3)", desk.count(3), 0);
        Check.is("count(4)", desk.count(4), 0);
    }

    private static void pays() {
        WorksDesk desk = Check.desk("0:100*10");
        Check.is("pays(0, 0)", desk.pays(0, 0), -2);
        Check.is("pays(0, 999999)", desk.pays(0, 999999), 0);
        Check.is("pays(0, 5)", desk.pays(0, 5), 999999);
        Check.is("pays(23, 6)", desk.pays(23, 6), 0);
        Check.is("PAID till 22", desk.amount(22, 12), 5);
        Check.is("PAID till 23", desk.amount(23, 12), 11);
        int[][] wrong = {{-1, 0}, {24, 0}, {0, -1}, {0, 1000000}};
        for (int[] call : wrong) {
            Check.is("pays, wrong", desk.pays(call[0], call[1]), -1);
        }
    }

    private static void dueAndGrants() {
        WorksDesk desk = Check.desk("0:100*10");
        Check.is("grants without DUE", desk.grants(12), -2);
        Check.is("grants(13) without DUE", desk.grants(13), -1);
        Check.is("due(-1)", desk.due(-1), -1);
        Check.is("due(24)", desk.due(24), -1);
        Check.is("due(23)", desk.due(23), 24);
        Check.is("due(23) again", desk.due(23), -2);
        Check.is("grants(0)", desk.grants(0), -1);
        Check.is("grants(-3)", desk.grants(-3), -1);
        Check.is("grants(11)", desk.grants(11), 11);
        Check.is("grants(2)", desk.grants(2), -3);
        Check.is("grants(13)", desk.grants(13), -1);
        Check.is("grants(1)", desk.grants(1), 12);
        Check.is("grants(1) above 12", desk.grants(1), -3);
        Check.is("count(8)", desk.count(8), 35);
        Check.is("due(0)", desk.due(0), 23);
        Check.is("what is GRANTED stays", desk.count(9), 12);
        Check.is("count(8) then", desk.count(8), 12);
    }

    private static void indexes() {
        WorksDesk desk = Check.desk("0:100*10");
        Check.is("indexes(4, 1000)", desk.indexes(4, 1000), 1000);
        Check.is("indexes(4, 1000) again", desk.indexes(4, 1000), -2);
        Check.is("indexes(6, 2000)", desk.indexes(6, 2000), 1000);
        Check.is("indexes(8, 500)", desk.indexes(8, 500), 2000);
        Check.is("indexes(8, 700)", desk.indexes(8, 700), 500);
        Check.is("indexes(7, 2000): INDEX is so, but not told there", desk.indexes(7, 2000), 2000);
        int[][] wrong = {{-1, 1000}, {24, 1000}, {0, 499}, {0, 2001}, {0, -1}};
        for (int[] call : wrong) {
            Check.is("indexes, wrong", desk.indexes(call[0], call[1]), -1);
        }
    }

    /** Calls that tell, and all answers below 0, leave the ROW as it is. */
    private static void refusalsKeepTheRow() {
        WorksDesk desk = Check.desk("0:100*10");
        desk.sum();
        desk.terms(0, 5);
        desk.measures(0, 0, 1);
        desk.strikes(0, 0);
        desk.stores(0, 1);
        desk.change(0, 0, 1, 1);
        desk.alters(0, 2);
        desk.setsOff(0, 1);
        desk.disputes(0, 0);
        desk.decides(0, 0, 0);
        desk.handover(1);
        desk.pays(1, 1);
        desk.due(1);
        desk.grants(1);
        desk.indexes(0, 900);
        desk.item(24, 0);
        desk.priced(1);
        desk.held(1, 0);
        desk.lines(24);
        desk.recovered();
        desk.limited();
        desk.reaches(0);
        desk.reaches(Long.MAX_VALUE);
        desk.clears(24);
        desk.paces(0, 0);
        desk.enough(1, 0);
        desk.shifts(0, 1, 1);
        desk.were(0, 24);
        desk.dearest();
        desk.ends(0);
        desk.ends(1);
        desk.leads(24);
        desk.above(24);
        desk.like(5, 0);
        desk.would(14, 0);
        desk.keeps(0);
        desk.keeps(1000000);
        desk.rises(0, 1);
        desk.account();
        Check.row("refusals", desk, 100, 50, 1, 2424);
        Check.bill(desk, "");
        desk.leads(0);
        desk.overdue();
        desk.needed();
        Check.row("refusals of an empty desk", desk, 100, 50, 1, 2424);
    }
}
