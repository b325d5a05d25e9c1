/**
 * Promises 1 to 19, sentence by sentence: the values just inside each bound are taken and hold, the empty and the full
 * case answer as they should. What is just outside, and that it changes nothing, stands in RefusalsTest.
 */
public final class ToldEdgesTest {
    private static final int[] EDGE_MONTHS = {0, 1, 22, 23};

    public static void main(String[] args) {
        newObject();
        signAtEachLength();
        signOrder();
        end();
        billOfTheLeastAndTheGreatest();
        billFaultsOfKind();
        billFaultsOfNumbers();
        billFaultsOfItsEnd();
        billOfTooMany();
        billOfEachSign();
        billOfAFullText();
        terms();
        measures();
        strikes();
        stores();
        change();
        alters();
        setsOff();
        disputes();
        decides();
        handover();
        closes();
        pays();
        due();
        grants();
        indexes();
        Check.end("ToldEdgesTest");
    }

    private static void newObject() {
        WorksDesk desk = new WorksDesk();
        Check.row("new: the ROW is empty", desk);
        Check.is("new: handover", desk.handover(0), 24);
        Check.is("new: closes", desk.closes(0), 24);
        Check.is("new: due", desk.due(0), 24);
        Check.is("new: change is the first", desk.change(0, 0, 1, 1), 0);
        Check.is("new: setsOff is the first", desk.setsOff(0, 1), 0);
        for (int month = 0; month < 24; month++) {
            Check.is("new: stored in " + month, desk.stores(month, month), Math.max(0, month - 1));
            Check.is("new: PAID in " + month, desk.pays(month, 1), 0);
        }
        Check.is("new: INDEX in 0", desk.indexes(0, 500), 1000);
    }

    private static String ofLength(int signs) {
        return "x".repeat(signs);
    }

    private static void signAtEachLength() {
        for (int signs = 0; signs <= 120; signs++) {
            WorksDesk desk = new WorksDesk();
            Check.text(desk, ofLength(signs));
            Check.is("signs", desk.count(7), signs);
            Check.is("sign behind " + signs, desk.sign(0), signs <= 116 ? signs + 4 : -1);
            Check.is("signs then", desk.count(7), signs <= 116 ? signs + 4 : signs);
        }
    }

    /** Each byte counts by itself, those above 127 too, and they come behind what is there. */
    private static void signOrder() {
        WorksDesk desk = new WorksDesk();
        desk.sign(0x313A322A);
        desk.sign(0x333B343A);
        desk.sign(0x352A3637);
        Check.is("bill of 1:2*3;4:5*67", desk.bill(), 2);
        Check.is("sum of 1:2*3;4:5*67", desk.sum(), 341);
        int[] fours = {0xB03A312A, 0x30BA312A, 0x303AB12A, 0x303A31AA, 0x803A312A, 0xFFFFFFFF, 0, Integer.MIN_VALUE};
        int[] faults = {0, 1, 2, 3, 0, 0, 0, 0};
        for (int i = 0; i < fours.length; i++) {
            Check.is("sign of a byte above 127, or of 0", desk.sign(fours[i]), 4);
            Check.is("bill of it", desk.bill(), -1 - faults[i]);
        }
    }

    private static void end() {
        for (int n = 0; n <= 8; n++) {
            WorksDesk desk = new WorksDesk();
            Check.text(desk, "0:1*2345");
            Check.is("end(" + n + ") of 8", desk.end(n), true);
            Check.is("signs then", desk.count(7), n);
            Check.is("end(" + (n + 1) + ") of " + n, desk.end(n + 1), false);
            Check.is("end(" + n + ") of " + n, desk.end(n), true);
        }
        WorksDesk desk = new WorksDesk();
        Check.is("end(0) of none", desk.end(0), true);
        Check.is("end(1) of none", desk.end(1), false);
        Check.is("end(-1) of none", desk.end(-1), false);
        Check.text(desk, "0:1*2345");
        desk.end(7);
        Check.is("the first seven signs", desk.bill(), 1);
        Check.is("SUM of the first seven signs", desk.sum(), 234);
        Check.text(desk, ofLength(120));
        Check.is("end(120) of 120", desk.end(120), true);
        Check.is("end(119) of 120", desk.end(119), true);
    }

    private static void billOfTheLeastAndTheGreatest() {
        String[] texts = {"0:1*1", "4:1*1", "0:9*9", "0:10*10", "0:99*99", "0:100*100", "0:999*999", "0:001*001",
            "0:01*010", "4:999*1", "4:1*999"};
        int[] sums = {1, 1, 81, 100, 9801, 10000, 998001, 1, 10, 999, 999};
        for (int i = 0; i < texts.length; i++) {
            WorksDesk desk = new WorksDesk();
            Check.is("bill of " + texts[i], Check.bill(desk, texts[i]), 1);
            Check.is("SUM of " + texts[i], desk.sum(), sums[i]);
            Check.is("ITEMS of " + texts[i], desk.count(0), 1);
            Check.is("THE TEXT is empty", desk.count(7), 0);
            Check.is("bill of the emptied TEXT", desk.bill(), 0);
            Check.is("no ITEMS", desk.count(0), 0);
        }
        for (int items = 1; items <= 10; items++) {
            String text = "3:2*1" + ";3:2*1".repeat(items - 1);
            WorksDesk desk = new WorksDesk();
            Check.is("bill of " + items, Check.bill(desk, text), items);
            Check.is("SUM of " + items, desk.sum(), 2 * items);
            Check.is("the last ITEM", desk.measures(0, items - 1, 1), 0);
            Check.is("behind the last ITEM", desk.measures(0, items, 1), -1);
        }
    }

    private static void faults(String ahead, String[] texts, int[] places) {
        for (int i = 0; i < texts.length; i++) {
            String text = ahead + texts[i];
            Check.is("bill of " + text, Check.bill(new WorksDesk(), text), -1 - ahead.length() - places[i]);
        }
    }

    /** The same faults in the first, the second and the tenth ITEM. */
    private static void faultsAnywhere(String[] texts, int[] places) {
        faults("", texts, places);
        faults("4:9*8;", texts, places);
        faults("1:23*456;".repeat(9), texts, places);
    }

    private static void billFaultsOfKind() {
        faultsAnywhere(new String[] {"5:1*1", "6:1*1", "9:1*1", "/:1*1", "::1*1", "*", ";0:1*1", "x"},
            new int[] {0, 0, 0, 0, 0, 0, 0, 0});
        faultsAnywhere(new String[] {"00:1*1", "4;1*1", "4*1*1", "4 :1*1", "44"}, new int[] {1, 1, 1, 1, 1});
    }

    private static void billFaultsOfNumbers() {
        faultsAnywhere(new String[] {"0:0*1", "0:00*1", "0:000*1", "0:1*0", "0:1*00", "0:1*000", "0:12*0;1:1*1"},
            new int[] {2, 3, 4, 4, 5, 6, 5});
        faultsAnywhere(new String[] {"0:1000*1", "0:9999*1", "0:0001*1", "0:0000*1", "0:1*1000", "0:1*0001", "0:1*0000",
            "0:1*10000"}, new int[] {5, 5, 5, 5, 7, 7, 7, 7});
        faultsAnywhere(new String[] {"0:*1", "0:-1*1", "0:+1*1", "0:a*1", "0:;", "0::1*1", "0:1**1", "0:1*-1", "0:1*;",
            "0:1*:"}, new int[] {2, 2, 2, 2, 2, 2, 4, 4, 4, 4});
        faultsAnywhere(new String[] {"0:1;1", "0:12:1", "0:123 ", "0:1*1:1", "0:1*12*1", "0:1*123 ", "0:1/1", "0:1*1/"},
            new int[] {3, 4, 5, 5, 6, 7, 3, 5});
    }

    private static void billFaultsOfItsEnd() {
        faultsAnywhere(new String[] {"0", "0:", "0:1", "0:12", "0:123", "0:1*"}, new int[] {1, 2, 3, 4, 5, 4});
        Check.is("bill that ends behind a ;", Check.bill(new WorksDesk(), "0:1*1;"), -1 - 6);
        Check.is("bill that ends behind the ninth ;", Check.bill(new WorksDesk(), "1:23*456;".repeat(9)), -1 - 81);
    }

    private static void billOfTooMany() {
        String ten = "0:1*1" + ";0:1*1".repeat(9);
        String[] more = {";", ";0", ";0:1*1", ";;", "x", ":", "*"};
        for (String text : more) {
            Check.is("ten and " + text, Check.bill(new WorksDesk(), ten + text), -1 - 59);
            Check.is("ten long ones and " + text, Check.bill(new WorksDesk(), Stories.TEN_ITEMS + text), -1 - 99);
        }
        Check.is("ten long ones and a digit", Check.bill(new WorksDesk(), Stories.TEN_ITEMS + "9"), -1 - 99);
        Check.is("nine and one more", Check.bill(new WorksDesk(), ten), 10);
    }

    /** Each of the 256 signs in each place of an ITEM: those that can stand there, and no others. */
    private static void billOfEachSign() {
        for (int sign = 0; sign < 256; sign++) {
            char c = (char) sign;
            boolean digit = c >= '0' && c <= '9';
            one(c + ":1*1", c >= '0' && c <= '4', 0);
            one("0" + c + "1*1", c == ':', 1);
            one("0:" + c + "*1", digit && c != '0', 2);
            one("0:1" + c + "1", c == '*', digit ? 5 : 3);
            one("0:1*" + c, digit && c != '0', 4);
            one("0:1*1" + c, digit, c == ';' ? 6 : 5);
        }
    }

    private static void one(String text, boolean stands, int fault) {
        Check.is("bill of " + text, Check.bill(new WorksDesk(), text), stands ? 1 : -1 - fault);
    }

    private static void billOfAFullText() {
        Check.is("120 signs that can't stand", Check.bill(new WorksDesk(), ofLength(120)), -1);
        Check.is("120 digits", Check.bill(new WorksDesk(), "0".repeat(120)), -2);
        Check.is("120 signs of ITEMS", Check.bill(new WorksDesk(), "0:1*1;".repeat(20)), -1 - 59);
    }

    private static void terms() {
        for (int term = 0; term < 14; term++) {
            int most = Stories.TERM_MOST[term];
            int first = Stories.TERM_AT_FIRST[term];
            WorksDesk desk = new WorksDesk();
            Check.is("TERM " + term + " at first", desk.count(10 + term), first);
            if (first != 0) {
                Check.is("TERM " + term + " becomes 0", desk.terms(term, 0), first);
            }
            Check.is("TERM " + term + " is 0", desk.terms(term, 0), -2);
            Check.is("TERM " + term + " becomes greatest", desk.terms(term, most), 0);
            Check.is("TERM " + term + " is greatest", desk.terms(term, most), -2);
            Check.is("TERM " + term + " becomes less", desk.terms(term, most - 1), most);
            for (int other = 0; other < 14; other++) {
                int due = other == term ? most - 1 : Stories.TERM_AT_FIRST[other];
                Check.is("TERM " + other + " behind terms of " + term, desk.count(10 + other), due);
            }
        }
    }

    private static void measures() {
        for (int month : EDGE_MONTHS) {
            WorksDesk desk = Check.desk(Stories.TEN_ITEMS);
            Check.is("measures the last ITEM in " + month, desk.measures(month, 9, 1999), 0);
            Check.is("just that is told", desk.measures(month, 9, 1999), -2);
            Check.is("measures 0", desk.measures(month, 9, 0), 1999);
            Check.is("just 0 is told", desk.measures(month, 9, 0), -2);
            Check.is("measures 1", desk.measures(month, 9, 1), 0);
            Check.is("DONE there", desk.item(month, 9), 1);
            Check.is("the first ITEM is another", desk.measures(month, 0, 5), 0);
            Check.is("MONTHS MEASURED", desk.count(5), 1);
            desk.measures(0, 9, 4);
            int was = month == 0 ? 4 : 1;
            Check.is("what DONE was: told there ahead of told earlier", desk.measures(month, 9, 3), was);
        }
        WorksDesk desk = Check.desk("0:9*9");
        desk.measures(4, 0, 6);
        Check.is("DONE as told earlier, in the next MONTH", desk.measures(5, 0, 6), 6);
        Check.is("DONE as told earlier, in the last MONTH", desk.measures(23, 0, 6), 6);
        Check.is("DONE ahead of what is told", desk.measures(3, 0, 6), 0);
    }

    private static void strikes() {
        for (int month : EDGE_MONTHS) {
            WorksDesk desk = Check.desk(Stories.TEN_ITEMS);
            Check.is("strikes nothing in " + month, desk.strikes(month, 9), -2);
            desk.measures(month, 9, 0);
            Check.is("strikes a told 0 in " + month, desk.strikes(month, 9), 0);
            Check.is("it is no more told", desk.strikes(month, 9), -2);
            desk.measures(month, 9, 1999);
            Check.is("strikes in " + month, desk.strikes(month, 9), 0);
            Check.is("DONE then", desk.item(23, 9), 0);
            Check.is("MONTHS MEASURED then", desk.count(5), 0);
        }
        WorksDesk desk = Check.desk("0:9*9");
        desk.measures(0, 0, 2);
        desk.measures(22, 0, 3);
        desk.measures(23, 0, 4);
        Check.is("strikes in 22: DONE as told in 0", desk.strikes(22, 0), 2);
        Check.is("what is told later stays", desk.item(23, 0), 4);
        Check.is("strikes in 23: DONE as told in 0", desk.strikes(23, 0), 2);
        Check.is("strikes in 0: DONE without", desk.strikes(0, 0), 0);
        desk.measures(0, 0, 5);
        desk.measures(1, 0, 6);
        Check.is("strikes in 1: DONE as told in 0", desk.strikes(1, 0), 5);
        Check.is("DONE from 1 on", desk.item(1, 0), 5);
    }

    private static void stores() {
        for (int month : EDGE_MONTHS) {
            WorksDesk desk = new WorksDesk();
            Check.is("stores 0 in " + month + ": 0 without", desk.stores(month, 0), 0);
            Check.is("just 0 is told", desk.stores(month, 0), -2);
            Check.is("stores 99999", desk.stores(month, 99999), 0);
            Check.is("just 99999 is told", desk.stores(month, 99999), -2);
            Check.is("stores less", desk.stores(month, 99998), 99999);
        }
        WorksDesk desk = new WorksDesk();
        desk.stores(3, 50);
        Check.is("told latest ahead of that", desk.stores(4, 60), 50);
        Check.is("told there", desk.stores(4, 70), 60);
        Check.is("told latest ahead of that, the same", desk.stores(5, 70), 70);
        Check.is("ahead of all that is told", desk.stores(2, 50), 0);
    }

    private static void change() {
        int[][] right = {{0, 0, 1, 0}, {23, 4, 999, 999}, {0, 4, -1, 0}, {23, 0, -999, 999}, {0, 0, 1, 1}, {0, 1, 2, 998},
            {1, 1, -2, 1}, {22, 3, 1, 0}};
        WorksDesk desk = Check.desk("0:1*5");
        for (int i = 0; i < 8; i++) {
            int[] c = right[i];
            Check.is("CHANGES ahead of " + i, desk.count(1), i);
            Check.is("change " + i, desk.change(c[0], c[1], c[2], c[3]), i);
            int price = c[1] == 0 ? 5 : c[3];
            Check.is("priced(" + i + ")", desk.priced(i), price);
            Check.row("priced(" + i + ")", desk, c[0], c[1], c[2], c[2] * price, c[1] == 0 ? 1 : 0);
        }
        Check.is("a ninth", desk.change(0, 0, 1, 1), -2);
        Check.is("a ninth, wrong", desk.change(24, 0, 1, 1), -1);
        Check.is("eight stay", desk.count(1), 8);
        Check.bill(desk, "");
        Check.is("behind a BILL the first again", desk.change(0, 0, 1, 1), 0);
    }

    private static void alters() {
        WorksDesk desk = new WorksDesk();
        for (int i = 0; i < 8; i++) {
            desk.change(i, 1, 10 + i, 1);
        }
        for (int change : new int[] {0, 7}) {
            Check.is("alters to 999", desk.alters(change, 999), 10 + change);
            Check.is("alters to 999 again", desk.alters(change, 999), -2);
            Check.is("alters to -999", desk.alters(change, -999), 999);
            Check.is("alters to 1", desk.alters(change, 1), -999);
            Check.is("alters to -1: another one", desk.alters(change, -1), 1);
            Check.is("its PRICE stays", desk.priced(change), 1);
            Check.row("its MONTH and KIND stay", desk, change, 1, -1, -1, 0);
        }
        desk.priced(6);
        Check.row("the one ahead stays", desk, 6, 1, 16, 16, 0);
        desk.priced(1);
        Check.row("the one behind stays", desk, 1, 1, 11, 11, 0);
        Check.is("no more CHANGES by it", desk.count(1), 8);
        desk.alters(3, -1);
        Check.is("what it was, though that is -1", desk.alters(3, -2), -1);
        Check.is("what it was, though that is -2", desk.alters(3, -3), -2);
        Check.is("it has become another one", desk.alters(3, 4), -3);
    }

    private static void setsOff() {
        int[][] right = {{0, 1}, {23, 99999}, {0, 99999}, {23, 1}, {1, 2}, {22, 99998}};
        WorksDesk desk = new WorksDesk();
        for (int i = 0; i < 6; i++) {
            Check.is("SET-OFFS ahead of " + i, desk.count(2), i);
            Check.is("setsOff " + i, desk.setsOff(right[i][0], right[i][1]), i);
            Check.is("held(" + i + ", 23)", desk.held(i, 23), right[i][1]);
            Check.row("held(" + i + ", 23)", desk, right[i][0], right[i][1], -1, -1, 0);
        }
        Check.is("a seventh", desk.setsOff(0, 1), -2);
        Check.is("a seventh, wrong", desk.setsOff(0, 0), -1);
        Check.is("six stay", desk.count(2), 6);
        Check.bill(desk, "");
        Check.is("behind a BILL the first again", desk.setsOff(0, 1), 0);
    }

    private static void disputes() {
        WorksDesk desk = new WorksDesk();
        int[] months = {0, 5, 23, 22, 0, 1};
        for (int month : months) {
            desk.setsOff(month, 10);
        }
        Check.is("ahead of its own MONTH by one", desk.disputes(1, 4), -1);
        Check.is("in its own MONTH", desk.disputes(1, 5), 1);
        Check.is("in 0, its own", desk.disputes(0, 0), 2);
        Check.is("ahead of 23", desk.disputes(2, 22), -1);
        Check.is("in 23, its own", desk.disputes(2, 23), 3);
        Check.is("behind its own", desk.disputes(3, 23), 4);
        Check.is("in 23, from 0 on", desk.disputes(4, 23), 5);
        desk.decides(0, 0, 0);
        desk.decides(1, 23, 1000);
        Check.is("the last one; decided ones do not count", desk.disputes(5, 1), 4);
        for (int setOff = 0; setOff < 6; setOff++) {
            Check.is("all are disputed", desk.disputes(setOff, 23), -2);
        }
    }

    private static void decides() {
        WorksDesk desk = new WorksDesk();
        for (int setOff = 0; setOff < 6; setOff++) {
            desk.setsOff(3, 99999);
            desk.disputes(setOff, 6);
        }
        Check.is("ahead of the dispute by one", desk.decides(0, 5, 500), -1);
        Check.is("in the MONTH of the dispute, none", desk.decides(0, 6, 0), 0);
        Check.is("a MONTH later, all", desk.decides(1, 7, 1000), 99999);
        Check.is("in the last MONTH, 1", desk.decides(2, 23, 1), 99);
        Check.is("999", desk.decides(5, 6, 999), 99899);
        int[][] due = {{6, 6, 0}, {6, 7, 1000}, {6, 23, 1}, {6, -1, 0}, {6, -1, 0}, {6, 6, 999}};
        for (int setOff = 0; setOff < 6; setOff++) {
            desk.held(setOff, 0);
            Check.row("held(" + setOff + ")", desk, 3, 99999, due[setOff][0], due[setOff][1], due[setOff][2]);
            boolean decided = due[setOff][1] >= 0;
            Check.is("decides anew", desk.decides(setOff, 23, 7), decided ? -3 : 699);
        }
    }

    private static void handover() {
        WorksDesk desk = new WorksDesk();
        Check.is("handover(23), without FINAL", desk.handover(23), 24);
        Check.is("handover(23) again", desk.handover(23), -2);
        Check.is("handover(0)", desk.handover(0), 23);
        Check.is("handover(0) again", desk.handover(0), -2);
        desk.closes(9);
        Check.is("handover ahead of FINAL by one", desk.handover(8), 0);
        Check.is("handover when FINAL", desk.handover(9), 8);
        Check.is("handover behind FINAL by one", desk.handover(10), -3);
        Check.is("HANDOVER stays", desk.count(3), 9);
        Check.is("FINAL stays", desk.count(4), 9);
    }

    private static void closes() {
        WorksDesk desk = new WorksDesk();
        Check.is("closes(23), without HANDOVER", desk.closes(23), -3);
        Check.is("closes(24), without HANDOVER", desk.closes(24), -1);
        desk.handover(9);
        Check.is("closes ahead of HANDOVER by one", desk.closes(8), -3);
        Check.is("FINAL stays untold", desk.count(4), -1);
        Check.is("closes when HANDOVER", desk.closes(9), 24);
        Check.is("closes again", desk.closes(9), -2);
        Check.is("closes behind by one", desk.closes(10), 9);
        Check.is("closes(23)", desk.closes(23), 10);
        Check.is("closes ahead of HANDOVER, FINAL told", desk.closes(8), -3);
        Check.is("FINAL stays", desk.count(4), 23);
        desk.handover(0);
        Check.is("closes(0), HANDOVER in 0", desk.closes(0), 23);
        WorksDesk last = new WorksDesk();
        last.handover(23);
        Check.is("closes(22), HANDOVER in 23", last.closes(22), -3);
        Check.is("closes(23), HANDOVER in 23", last.closes(23), 24);
    }

    private static void pays() {
        for (int month : EDGE_MONTHS) {
            WorksDesk desk = new WorksDesk();
            Check.is("pays 0 in " + month + ": it is so", desk.pays(month, 0), -2);
            Check.is("pays 1", desk.pays(month, 1), 0);
            Check.is("pays 999999", desk.pays(month, 999999), 1);
            Check.is("pays 999999 again", desk.pays(month, 999999), -2);
            Check.is("PAID till then", desk.amount(month, 12), 999999);
            Check.is("PAID in all", desk.amount(23, 12), 999999);
            Check.is("PAID ahead", month == 0 ? 0 : desk.amount(month - 1, 12), 0);
            Check.is("pays 0", desk.pays(month, 0), 999999);
            Check.is("pays 0 again", desk.pays(month, 0), -2);
        }
        WorksDesk desk = new WorksDesk();
        for (int month = 0; month < 24; month++) {
            desk.pays(month, 999999);
        }
        Check.is("greatest PAID in all", desk.amount(23, 12), 24L * 999999);
    }

    private static void due() {
        WorksDesk desk = new WorksDesk();
        Check.is("due(0)", desk.due(0), 24);
        Check.is("due(0) again", desk.due(0), -2);
        Check.is("due(23)", desk.due(23), 0);
        Check.is("due(23) again", desk.due(23), -2);
        desk.grants(12);
        Check.is("due(22)", desk.due(22), 23);
        Check.is("what is GRANTED stays", desk.count(9), 12);
        Check.is("DUE with what is GRANTED may be behind 23", desk.count(8), 34);
        Check.bill(desk, "");
        Check.is("what is GRANTED goes with a BILL", desk.count(9), 0);
        Check.is("DUE goes with a BILL", desk.due(22), 24);
    }

    private static void grants() {
        WorksDesk desk = new WorksDesk();
        Check.is("grants(1) without DUE", desk.grants(1), -2);
        Check.is("grants(12) without DUE", desk.grants(12), -2);
        desk.due(0);
        Check.is("grants(12)", desk.grants(12), 12);
        Check.is("grants(1) behind 12", desk.grants(1), -3);
        Check.is("grants(12) behind 12", desk.grants(12), -3);
        Check.is("grants(13) behind 12", desk.grants(13), -1);
        WorksDesk other = new WorksDesk();
        other.due(0);
        for (int n = 1; n <= 12; n++) {
            Check.is("grants(1), the " + n + "th", other.grants(1), n);
        }
        Check.is("grants(1), a 13th", other.grants(1), -3);
        WorksDesk third = new WorksDesk();
        third.due(0);
        third.grants(5);
        Check.is("grants(8) behind 5", third.grants(8), -3);
        Check.is("GRANTED stays", third.count(9), 5);
        Check.is("grants(7) behind 5", third.grants(7), 12);
    }

    private static void indexes() {
        for (int month : EDGE_MONTHS) {
            WorksDesk desk = new WorksDesk();
            Check.is("indexes 1000 in " + month + ": 1000 without", desk.indexes(month, 1000), 1000);
            Check.is("just 1000 is told", desk.indexes(month, 1000), -2);
            Check.is("indexes 500", desk.indexes(month, 500), 1000);
            Check.is("just 500 is told", desk.indexes(month, 500), -2);
            Check.is("indexes 2000", desk.indexes(month, 2000), 500);
            Check.is("just 2000 is told", desk.indexes(month, 2000), -2);
            Check.is("indexes 501", desk.indexes(month, 501), 2000);
        }
        WorksDesk desk = new WorksDesk();
        desk.indexes(3, 1500);
        Check.is("INDEX as told earlier", desk.indexes(4, 1500), 1500);
        Check.is("INDEX as told earlier, in the last MONTH", desk.indexes(23, 700), 1500);
        Check.is("INDEX ahead of what is told", desk.indexes(2, 700), 1000);
    }
}
