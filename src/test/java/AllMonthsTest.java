/** Promises 26 to 44: all months. The numbers due are worked out by hand. */
public final class AllMonthsTest {
    public static void main(String[] args) {
        recovered();
        limited();
        reaches();
        worst();
        clears();
        paces();
        enough();
        enoughAtItsEdges();
        shifts();
        were();
        dearest();
        ends();
        leads();
        above();
        like();
        would();
        keeps();
        overdue();
        needed();
        rises();
        questionsChangeNothing();
        Check.end("AllMonthsTest");
    }

    private static void recovered() {
        WorksDesk desk = MonthsTest.works();
        Check.is("recovered()", desk.recovered(), 2);
        desk.strikes(2, 2);
        Check.is("recovered(): none", desk.recovered(), -2);
        desk.handover(9);
        desk.closes(9);
        Check.is("recovered() at FINAL", desk.recovered(), 9);
        desk.terms(3, 0);
        Check.is("recovered() of nothing", desk.recovered(), 0);
    }

    private static void limited() {
        WorksDesk desk = MonthsTest.works();
        Check.is("limited()", desk.limited(), 2);
        desk.handover(3);
        Check.is("limited() ahead of HANDOVER", desk.limited(), 2);
        desk.handover(2);
        Check.is("limited(): HANDOVER is ahead", desk.limited(), -2);
        desk.terms(2, 0);
        Check.is("limited(): from HANDOVER on none counts", desk.limited(), -2);
        desk.handover(20);
        desk.terms(1, 0);
        Check.is("limited() of 0", desk.limited(), -2);
        desk.terms(1, 60);
        Check.is("limited(): 139 of 2330", desk.limited(), 2);
        desk.terms(1, 63);
        Check.is("limited(): 146 is not reached", desk.limited(), -2);
        WorksDesk little = Check.desk("0:20*1");
        little.measures(4, 0, 10);
        Check.is("limited() of 1", little.limited(), 4);
    }

    private static void reaches() {
        WorksDesk desk = MonthsTest.works();
        Check.is("reaches(0)", desk.reaches(0), -1);
        Check.is("reaches(MIN)", desk.reaches(Long.MIN_VALUE), -1);
        Check.is("reaches(1)", desk.reaches(1), 0);
        Check.row("reaches(1)", desk, 593);
        Check.is("reaches(593)", desk.reaches(593), 0);
        Check.is("reaches(594)", desk.reaches(594), 1);
        Check.row("reaches(594)", desk, 1000);
        Check.is("reaches(1334)", desk.reaches(1334), 2);
        Check.is("reaches(1335)", desk.reaches(1335), -2);
        Check.is("reaches(MAX)", desk.reaches(Long.MAX_VALUE), -2);
        Check.row("reaches(MAX) keeps the ROW", desk, 1334);
    }

    private static void worst() {
        WorksDesk desk = MonthsTest.works();
        Check.is("worst()", desk.worst(), 3);
        Check.row("worst()", desk, 1334, 23);
        desk.pays(2, 741);
        Check.is("worst() of equal ones", desk.worst(), 1);
        Check.row("worst() of equal ones", desk, 593, 23);
        desk.pays(0, 5000);
        Check.is("worst() of none", desk.worst(), 0);
        Check.row("worst() of none", desk, 0, 0);
        desk.pays(0, 592);
        Check.is("worst() of 1", desk.worst(), 1);
        Check.row("worst() of 1", desk, 1, 22);
        desk.pays(0, 0);
        desk.pays(5, 9999);
        Check.is("worst()", desk.worst(), 1);
        Check.row("worst(): four MONTHS", desk, 593, 4);
    }

    private static void clears() {
        WorksDesk desk = MonthsTest.works();
        desk.pays(2, 700);
        Check.is("clears(1)", desk.clears(1), 0);
        Check.row("clears(1)", desk, 593, 0);
        Check.is("clears(3)", desk.clears(3), 0);
        Check.row("clears(3)", desk, 634, 8);
        Check.is("clears(0)", desk.clears(0), 0);
        Check.row("clears(0)", desk, 0, 134);
        Check.is("clears(23)", desk.clears(23), 0);
        Check.row("clears(23)", desk, 634, 128);
        Check.is("clears(-1)", desk.clears(-1), -1);
        Check.is("clears(24)", desk.clears(24), -1);
        Check.is("nothing is PAID by it", desk.amount(23, 12), 700);
    }

    private static void paces() {
        WorksDesk desk = MonthsTest.works();
        desk.pays(2, 700);
        Check.is("paces(1, 500)", desk.paces(1, 500), 2);
        Check.row("paces(1, 500)", desk, 0);
        Check.is("paces(1, 200)", desk.paces(1, 200), 7);
        Check.row("paces(1, 200)", desk, 25);
        Check.is("paces(1, 58)", desk.paces(1, 58), 23);
        Check.is("paces(1, 57)", desk.paces(1, 57), -2);
        Check.is("paces(3, 634)", desk.paces(3, 634), 3);
        Check.row("paces(3, 634)", desk, 8);
        Check.is("paces(0, 1)", desk.paces(0, 1), 0);
        Check.is("paces(1, 999999)", desk.paces(1, 999999), 1);
        int[][] wrong = {{-1, 1}, {24, 1}, {0, 0}, {0, -1}, {0, 1000000}};
        for (int[] call : wrong) {
            Check.is("paces, wrong", desk.paces(call[0], call[1]), -1);
        }
        Check.is("nothing is PAID by it", desk.amount(23, 12), 700);
    }

    private static void enough() {
        WorksDesk desk = MonthsTest.works();
        desk.pays(2, 700);
        int[][] calls = {{1, 23, 58}, {1, 22, 61}, {1, 1, 593}, {1, 2, 500}, {0, 0, 1}, {0, 23, 1}, {3, 3, 634}, {3, 4, 317}};
        for (int[] call : calls) {
            String name = "enough(" + call[0] + ", " + call[1] + ")";
            Check.is(name, desk.enough(call[0], call[1]), 0);
            Check.row(name, desk, call[2]);
        }
        int[][] wrong = {{-1, 1}, {24, 24}, {0, -1}, {0, 24}, {2, 1}};
        for (int[] call : wrong) {
            Check.is("enough, wrong", desk.enough(call[0], call[1]), -1);
        }
    }

    /** 999 of 999 of two ITEMS: WORK 1996002, ADVANCED 199600, RETAINED 99800, all of the advance recovered. */
    private static void enoughAtItsEdges() {
        WorksDesk desk = Check.desk("0:999*999;0:999*999");
        desk.measures(0, 0, 999);
        desk.measures(0, 1, 999);
        Check.is("TOTAL", desk.amount(0, 8), 1896202);
        Check.is("enough(1, 1): by none", desk.enough(1, 1), -2);
        Check.is("enough(1, 2)", desk.enough(1, 2), 0);
        Check.row("enough(1, 2)", desk, 948101);
        desk.pays(0, 896203);
        Check.is("enough(1, 1)", desk.enough(1, 1), 0);
        Check.row("enough(1, 1)", desk, 999999);
        desk.pays(0, 896202);
        Check.is("enough(1, 1): 1000000 would be", desk.enough(1, 1), -2);
        desk.pays(0, 999999);
        desk.pays(1, 999999);
        Check.is("enough(2, 2)", desk.enough(2, 2), 0);
        Check.row("enough(2, 2): all is PAID", desk, 1);
    }

    private static void shifts() {
        WorksDesk desk = MonthsTest.works();
        Check.is("shifts(1, 1, 50)", desk.shifts(1, 1, 50), 2);
        Check.row("shifts(1, 1, 50)", desk, 1, 284, 400);
        Check.is("shifts(1, 1, 30): just that is told", desk.shifts(1, 1, 30), 0);
        Check.row("shifts(1, 1, 30)", desk, -1, 0, 0);
        Check.is("shifts(2, 1, 30): DONE is so", desk.shifts(2, 1, 30), 0);
        Check.row("shifts(2, 1, 30)", desk, -1, 0, 0);
        Check.is("months measured stay", desk.count(5), 4);
        // WORK 0, 600, 1050, 1250; RETAINED 0, 60, 105, 116; RECOVERED 0, 33, 146, 196: CERTIFIED 233, 507, 292, 139
        Check.is("shifts(0, 0, 0)", desk.shifts(0, 0, 0), 4);
        Check.row("shifts(0, 0, 0)", desk, 0, -360, -163);
        int[][] wrong = {{-1, 0, 1}, {24, 0, 1}, {0, -1, 1}, {0, 3, 1}, {0, 0, -1}, {0, 0, 2000}};
        for (int[] call : wrong) {
            Check.is("shifts, wrong", desk.shifts(call[0], call[1], call[2]), -1);
        }
        MonthsTest.amounts("shifts changes nothing", desk, 7, 593, 407, 334, 0);
    }

    private static WorksDesk setOff() {
        WorksDesk desk = Check.desk("0:100*10");
        desk.measures(0, 0, 50);
        desk.measures(2, 0, 100);
        desk.setsOff(1, 100);
        desk.disputes(0, 3);
        desk.decides(0, 5, 400);
        desk.handover(6);
        desk.closes(7);
        return desk;
    }

    private static void were() {
        WorksDesk desk = setOff();
        Check.is("were(0, 3)", desk.were(0, 3), 0);
        Check.row("were(0, 3)", desk, 40, 16);
        Check.is("all INTEREST", desk.amount(23, 11), 196);
        Check.is("were(0, 1)", desk.were(0, 1), 0);
        Check.row("were(0, 1)", desk, 40, 17);
        // held till 22: 850 till 6, 875 in 6, 900 from 7 on; 1000 in 23
        Check.is("were(0, 23)", desk.were(0, 23), 0);
        Check.row("were(0, 23)", desk, 40, 4 + 4 + 8 * 5 + 9 * 16 - 196);
        int[][] wrong = {{-1, 3}, {1, 3}, {0, -1}, {0, 24}, {0, 0}};
        for (int[] call : wrong) {
            Check.is("were, wrong", desk.were(call[0], call[1]), -1);
        }
        Check.is("were changes nothing", desk.held(0, 5), 40);
        Check.row("were changes nothing", desk, 1, 100, 3, 5, 400);
    }

    private static void dearest() {
        WorksDesk desk = Check.desk("0:100*10");
        desk.measures(0, 0, 100);
        Check.is("dearest() of none", desk.dearest(), -2);
        desk.setsOff(0, 100);
        desk.setsOff(0, 200);
        desk.setsOff(5, 200);
        Check.is("dearest()", desk.dearest(), 1);
        Check.row("dearest()", desk, 8 * 23);
        desk.disputes(1, 0);
        Check.is("dearest() of the others", desk.dearest(), 0);
        Check.row("dearest() of the others", desk, 9 * 23);
        desk.decides(1, 3, 0);
        desk.setsOff(0, 100);
        Check.is("dearest() of equal ones", desk.dearest(), 0);
        desk.disputes(0, 10);
        desk.disputes(2, 10);
        Check.is("dearest() of one", desk.dearest(), 3);
        desk.disputes(3, 0);
        Check.is("dearest(): all are disputed", desk.dearest(), -2);
        WorksDesk free = Check.desk("");
        free.setsOff(4, 9);
        Check.is("dearest() without INTEREST", free.dearest(), 0);
        Check.row("dearest() without INTEREST", free, 0);
    }

    private static void ends() {
        WorksDesk desk = Check.desk("0:100*10;1:5*5");
        Check.is("ends: nothing told", desk.ends(0), -2);
        Check.is("ends(-1)", desk.ends(-1), -1);
        Check.is("ends(2)", desk.ends(2), -1);
        desk.measures(4, 0, 0);
        Check.is("ends: by nothing", desk.ends(0), -3);
        desk.measures(4, 0, 1);
        Check.is("ends behind 23", desk.ends(0), 103);
        Check.row("ends behind 23", desk, 1);
        desk.measures(4, 0, 25);
        Check.is("ends: just so", desk.ends(0), 7);
        Check.row("ends: just so", desk, 25);
        desk.measures(4, 0, 26);
        Check.is("ends: a MONTH in part", desk.ends(0), 7);
        desk.measures(4, 0, 24);
        Check.is("ends: a MONTH more", desk.ends(0), 8);
        desk.measures(2, 0, 10);
        desk.measures(5, 0, 30);
        desk.strikes(4, 0);
        Check.is("ends by 6 a MONTH", desk.ends(0), 17);
        Check.row("ends by 6 a MONTH", desk, 6);
        desk.measures(0, 0, 9);
        Check.is("ends: the last two alone", desk.ends(0), 17);
        desk.measures(5, 0, 12);
        Check.is("ends: by less than 1", desk.ends(0), -3);
        desk.measures(5, 0, 3);
        Check.is("ends: by less than 0", desk.ends(0), -3);
        desk.measures(3, 0, 100);
        Check.is("ends: it was so", desk.ends(0), 3);
        Check.row("ends: it was so", desk, 0);
        desk.measures(3, 0, 99);
        Check.is("ends: it was not so", desk.ends(0), -3);
        Check.row("the ROW stays", desk, 0);
        desk.measures(0, 1, 2);
        Check.is("ends: told in 0 alone", desk.ends(1), 2);
        Check.row("ends: told in 0 alone", desk, 2);
        desk.measures(1, 1, 3);
        Check.is("ends: told in 0 and 1", desk.ends(1), 3);
        Check.row("ends: told in 0 and 1", desk, 1);
        desk.measures(0, 1, 5);
        Check.is("ends in 0", desk.ends(1), 0);
    }

    private static void leads() {
        WorksDesk desk = MonthsTest.works();
        Check.is("leads(0)", desk.leads(0), 0);
        Check.row("leads(0)", desk, 400);
        Check.is("leads(1)", desk.leads(1), 1);
        Check.row("leads(1)", desk, 600);
        Check.is("leads(2)", desk.leads(2), 2);
        Check.row("leads(2)", desk, 450);
        Check.is("leads(3): of equal ones the first", desk.leads(3), 1);
        Check.row("leads(3)", desk, 0);
        desk.measures(3, 1, 0);
        desk.measures(3, 2, 11);
        Check.is("leads(3): all are less", desk.leads(3), 2);
        Check.row("leads(3): all are less", desk, -87);
        Check.is("leads(-1)", desk.leads(-1), -1);
        Check.is("leads(24)", desk.leads(24), -1);
        Check.bill(desk, "");
        Check.is("leads without ITEMS", desk.leads(0), -2);
        Check.is("leads(24) without ITEMS", desk.leads(24), -1);
    }

    private static void above() {
        WorksDesk desk = MonthsTest.works();
        desk.measures(5, 0, 101);
        desk.measures(5, 1, 50);
        desk.measures(5, 2, 11);
        Check.is("above(2)", desk.above(2), 4);
        Check.row("above(2)", desk, 4, 0);
        Check.is("above(3)", desk.above(3), 4);
        Check.row("above(3)", desk, 4, 1);
        Check.is("above(5)", desk.above(5), 5);
        Check.row("above(5)", desk, 0, 4);
        Check.is("above(6)", desk.above(6), 5);
        Check.row("above(6)", desk, 0, 0);
        desk.measures(1, 0, 39);
        Check.is("above(1)", desk.above(1), 0);
        Check.row("above(1): fallen in 1", desk, 0, 1);
        desk.measures(7, 0, 116);
        desk.measures(7, 2, 12);
        desk.measures(7, 1, 1);
        Check.is("above(7)", desk.above(7), 5);
        Check.row("above(7)", desk, 5, 2);
        Check.is("above(0)", desk.above(0), 0);
        Check.row("above(0)", desk, 0, 0);
        Check.is("above(-1)", desk.above(-1), -1);
        Check.is("above(24)", desk.above(24), -1);
    }

    private static void like() {
        WorksDesk one = Check.desk("3:1*70;2:1*7;3:1*70;3:1*9");
        Check.is("like(2, 5)", one.like(2, 5), 7);
        Check.is("like(3, 5)", one.like(3, 5), 49);
        Check.row("like(3, 5)", one, 13, 9, 70);
        WorksDesk desk = Check.desk("0:100*10;1:5*7;0:50*20");
        Check.is("like(0, 5)", desk.like(0, 5), 13);
        Check.row("like(0, 5)", desk, 5, 10, 20);
        Check.is("like(1, 0)", desk.like(1, 0), 7);
        Check.row("like(1, 0)", desk, 2, 7, 7);
        Check.is("like(4, 999)", desk.like(4, 999), 999);
        Check.row("like(4, 999)", desk, 0, 0, 0);
        Check.is("like(4, 0)", desk.like(4, 0), 0);
        int[][] wrong = {{-1, 0}, {5, 0}, {0, -1}, {0, 1000}};
        for (int[] call : wrong) {
            Check.is("like, wrong", desk.like(call[0], call[1]), -1);
        }
    }

    private static void would() {
        WorksDesk desk = MonthsTest.works();
        // CHEAP 0: WORK 1363 in 2, of which just 224 are RECOVERED
        int[][] calls = {{0, 0, 116, 23}, {0, 100, 0, 0}, {7, 0, 0, -288}, {8, 0, 0, 13}, {10, 0, -78, -21}};
        for (int[] call : calls) {
            String name = "would(" + call[0] + ", " + call[1] + ")";
            Check.is(name, desk.would(call[0], call[1]), 0);
            Check.row(name, desk, call[2], call[3]);
        }
        int[][] wrong = {{-1, 0}, {14, 0}, {0, -1}, {0, 201}, {8, 7}, {11, 51}};
        for (int[] call : wrong) {
            Check.is("would, wrong", desk.would(call[0], call[1]), -1);
        }
        Check.is("would changes nothing", desk.count(10), 100);
    }

    private static void keeps() {
        WorksDesk desk = MonthsTest.works();
        int[][] calls = {{116, 80, 116}, {115, 80, 116}, {114, 79, 114}, {1, 1, 1}};
        for (int[] call : calls) {
            Check.is("keeps(" + call[0] + ")", desk.keeps(call[0]), call[1]);
            Check.row("keeps(" + call[0] + ")", desk, call[2]);
        }
        Check.is("keeps(117)", desk.keeps(117), -2);
        Check.is("keeps(MAX)", desk.keeps(Integer.MAX_VALUE), -2);
        Check.is("keeps(0)", desk.keeps(0), -1);
        Check.is("keeps(MIN)", desk.keeps(Integer.MIN_VALUE), -1);
        desk.terms(1, 200);
        Check.is("keeps(290)", desk.keeps(290), 200);
        Check.is("keeps(291)", desk.keeps(291), -2);
        desk.handover(0);
        Check.is("keeps(145) from HANDOVER on", desk.keeps(145), 200);
        Check.is("keeps(146) from HANDOVER on", desk.keeps(146), -2);
        desk.closes(1);
        // 79 of 400, less 39
        Check.is("keeps(40) ahead of FINAL", desk.keeps(40), 198);
        Check.row("keeps(40)", desk, 40);
        Check.is("KEEP stays", desk.count(10), 100);
    }

    /** SUM 1234: a MONTH costs 40, 185 at most. */
    private static WorksDesk late() {
        WorksDesk desk = Check.desk("0:2*617");
        desk.terms(11, 33);
        desk.terms(12, 150);
        desk.due(3);
        return desk;
    }

    private static void overdue() {
        WorksDesk desk = late();
        Check.is("overdue()", desk.overdue(), 20);
        Check.row("overdue()", desk, 185, 8);
        desk.terms(12, 130);
        Check.is("overdue(): just so", desk.overdue(), 20);
        Check.row("overdue(): just so", desk, 160, 7);
        desk.terms(12, 150);
        desk.handover(7);
        Check.is("overdue() till HANDOVER", desk.overdue(), 4);
        Check.row("overdue() till HANDOVER", desk, 160, -1);
        desk.grants(2);
        Check.is("overdue() behind what is GRANTED", desk.overdue(), 2);
        Check.row("overdue() behind what is GRANTED", desk, 80, -1);
        desk.grants(2);
        Check.is("overdue() of none", desk.overdue(), 0);
        Check.row("overdue() of none", desk, 0, -1);
        desk.due(0);
        desk.terms(12, 0);
        Check.is("overdue(), MOST 0", desk.overdue(), 3);
        Check.row("overdue(), MOST 0", desk, 0, -1);
        Check.bill(desk, "0:1*50");
        Check.is("overdue(): DUE is not told", desk.overdue(), -2);
        desk.due(20);
        desk.terms(12, 20);
        Check.is("overdue() of 1", desk.overdue(), 3);
        Check.row("overdue() of 1", desk, 1, 21);
        Check.is("needed() of 1", desk.needed(), 3);
    }

    private static void needed() {
        WorksDesk desk = late();
        Check.is("needed()", desk.needed(), 20);
        Check.row("needed(): what was CERTIFIED stays", desk, 0);
        desk.measures(10, 0, 2);
        // NET in 10: 1234 and 123 less 61, 123 and 185: the 185 more would be CERTIFIED
        Check.is("needed()", desk.needed(), 20);
        Check.row("needed()", desk, 185);
        desk.due(0);
        Check.is("needed() from 0", desk.needed(), 23);
        desk.handover(12);
        Check.is("needed() till HANDOVER", desk.needed(), 12);
        desk.grants(5);
        Check.is("needed() behind what is GRANTED", desk.needed(), 7);
        Check.is("what is GRANTED stays", desk.count(9), 5);
        desk.grants(7);
        Check.is("needed() of none", desk.needed(), 0);
        Check.row("needed() of none", desk, 0);
        WorksDesk free = Check.desk("0:9*9");
        Check.is("needed(): DUE is not told", free.needed(), -2);
        free.due(0);
        Check.is("needed(): DAMAGE is 0", free.needed(), 0);
    }

    private static void rises() {
        WorksDesk desk = Check.desk("0:100*10");
        desk.measures(0, 0, 10);
        desk.measures(2, 0, 33);
        desk.measures(3, 0, 20);
        desk.indexes(1, 1100);
        desk.terms(13, 500);
        int[][] calls = {{1, 1200, 12, 5}, {3, 500, 0, 38}, {1, 1100, 0, 0}, {2, 1100, 0, 0}, {0, 500, -25, -25}};
        for (int[] call : calls) {
            String name = "rises(" + call[0] + ", " + call[1] + ")";
            Check.is(name, desk.rises(call[0], call[1]), 0);
            Check.row(name, desk, call[2], call[3]);
        }
        int[][] wrong = {{-1, 1000}, {24, 1000}, {0, 499}, {0, 2001}};
        for (int[] call : wrong) {
            Check.is("rises, wrong", desk.rises(call[0], call[1]), -1);
        }
        Check.is("INDEX stays untold", desk.indexes(2, 1100), 1100);
    }

    private static void questionsChangeNothing() {
        WorksDesk desk = setOff();
        desk.due(2);
        desk.terms(11, 50);
        desk.terms(13, 900);
        desk.indexes(1, 1300);
        desk.pays(4, 50);
        desk.setsOff(2, 60);
        desk.change(3, 2, 4, 5);
        long[] before = all(desk);
        desk.clears(4);
        desk.paces(2, 100);
        desk.enough(2, 9);
        desk.shifts(1, 0, 70);
        desk.shifts(0, 0, 70);
        desk.were(0, 2);
        desk.were(1, 4);
        desk.dearest();
        desk.would(0, 0);
        desk.keeps(3);
        desk.needed();
        desk.rises(0, 700);
        desk.rises(1, 700);
        long[] behind = all(desk);
        for (int i = 0; i < before.length; i++) {
            Check.is("amount " + i + " behind all questions", behind[i], before[i]);
        }
        Check.is("strikes(1, 0) behind shifts", desk.strikes(1, 0), -2);
        Check.is("one is not disputed", desk.disputes(1, 2), 1);
    }

    private static long[] all(WorksDesk desk) {
        long[] all = new long[24 * 15];
        for (int i = 0; i < all.length; i++) {
            all[i] = desk.amount(i / 15, i % 15);
        }
        return all;
    }
}
