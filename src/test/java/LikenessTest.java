/**
 * "Calls that ask change nothing but the ROW", the ROW stays "with calls that do not tell of it", and what is told
 * anew comes to the same as if it had been told so at once.
 */
public final class LikenessTest {
    private static final Twins FULL = new Twins(Stories::full);
    private static final Twins BEGUN = new Twins(Stories::begun);

    public static void main(String[] args) {
        questionsOfMonths();
        questionsOfAllMonths();
        questionsThatKeepTheRow();
        tellingKeepsTheRow();
        toldAnew();
        toldAndTakenBack();
        toldInAnotherOrder();
        signsAreToldAnew();
        billForgetsAllButTerms();
        toldBehindABill();
        desksAreApart();
        Check.end("LikenessTest");
    }

    private static void questionsOfMonths() {
        for (int m : new int[] {0, 5, 23}) {
            FULL.asked("amount in " + m, desk -> Math.abs(desk.amount(m, 6)));
            FULL.asked("item in " + m, desk -> desk.item(m, 0));
            FULL.asked("held in " + m, desk -> desk.held(2, m));
            FULL.asked("lines(" + m + ")", desk -> desk.lines(m));
            FULL.asked("clears(" + m + ")", desk -> desk.clears(m));
            FULL.asked("paces from " + m, desk -> desk.paces(m, 999999));
            FULL.asked("enough from " + m, desk -> desk.enough(m, 23));
            FULL.asked("shifts in " + m, desk -> desk.shifts(m, 0, 77));
            FULL.asked("leads(" + m + ")", desk -> desk.leads(m));
            FULL.asked("above(" + m + ")", desk -> desk.above(m));
            FULL.asked("rises in " + m, desk -> desk.rises(m, 1700));
        }
        FULL.asked("shifts where something is told", desk -> desk.shifts(3, 0, 1999));
        FULL.asked("shifts where just that is told", desk -> desk.shifts(3, 0, 20));
        FULL.asked("rises where something is told", desk -> desk.rises(6, 500));
        FULL.asked("rises where just that is told", desk -> desk.rises(6, 900));
    }

    private static void questionsOfAllMonths() {
        for (int setOff = 0; setOff < 6; setOff++) {
            int one = setOff;
            FULL.asked("were of " + one, desk -> desk.were(one, 20));
        }
        for (int term = 0; term < 14; term++) {
            int one = term;
            FULL.asked("would, greatest " + one, desk -> desk.would(one, Stories.TERM_MOST[one]));
            FULL.asked("would, 0 " + one, desk -> desk.would(one, 0));
        }
        FULL.asked("priced", desk -> desk.priced(7));
        FULL.asked("sum", desk -> desk.sum());
        FULL.asked("reaches", desk -> desk.reaches(1));
        FULL.asked("worst", desk -> desk.worst());
        FULL.asked("dearest", desk -> desk.dearest());
        FULL.asked("ends", desk -> desk.ends(1));
        FULL.asked("like", desk -> desk.like(0, 5));
        FULL.asked("keeps", desk -> desk.keeps(1));
        FULL.asked("overdue", desk -> desk.overdue());
        FULL.asked("needed", desk -> desk.needed());
        FULL.asked("account", desk -> desk.account());
        Twins late = new Twins(desk -> {
            Stories.begun(desk);
            desk.terms(11, 50);
            desk.due(0);
        });
        late.asked("needed, of many", desk -> desk.needed());
    }

    private static void questionsThatKeepTheRow() {
        FULL.keepsTheRow("amount", desk -> Math.abs(desk.amount(3, 6)));
        FULL.keepsTheRow("recovered", desk -> desk.recovered());
        FULL.keepsTheRow("count", desk -> desk.count(6));
        FULL.keepsTheRow("row", desk -> Math.abs(desk.row(0)));
        Twins limited = new Twins(desk -> {
            Check.bill(desk, "0:100*10");
            desk.measures(0, 0, 100);
            desk.sum();
        });
        limited.keepsTheRow("limited", desk -> desk.limited());
    }

    private static void tellingKeepsTheRow() {
        BEGUN.keepsTheRow("sign", desk -> desk.sign(1));
        BEGUN.keepsTheRow("end", desk -> desk.end(1) ? 1 : -1);
        FULL.keepsTheRow("bill", desk -> desk.bill());
        FULL.keepsTheRow("terms", desk -> desk.terms(0, 7));
        FULL.keepsTheRow("measures", desk -> desk.measures(9, 0, 7));
        FULL.keepsTheRow("strikes", desk -> desk.strikes(3, 0));
        FULL.keepsTheRow("stores", desk -> desk.stores(9, 7));
        BEGUN.keepsTheRow("change", desk -> desk.change(0, 0, 1, 1));
        FULL.keepsTheRow("alters", desk -> desk.alters(0, 7));
        BEGUN.keepsTheRow("setsOff", desk -> desk.setsOff(0, 1));
        FULL.keepsTheRow("disputes", desk -> desk.disputes(0, 7));
        FULL.keepsTheRow("decides", desk -> desk.decides(1, 7, 7));
        FULL.keepsTheRow("handover", desk -> desk.handover(7));
        FULL.keepsTheRow("closes", desk -> desk.closes(13));
        FULL.keepsTheRow("pays", desk -> desk.pays(9, 7));
        FULL.keepsTheRow("due", desk -> desk.due(7));
        FULL.keepsTheRow("indexes", desk -> desk.indexes(9, 777));
        Twins due = new Twins(desk -> {
            Stories.begun(desk);
            desk.due(3);
        });
        due.keepsTheRow("grants", desk -> desk.grants(1));
    }

    private static void begunAnd(String name, Twins.Story one, Twins.Story other) {
        Twins.same(name, desk -> {
            Stories.begun(desk);
            one.tell(desk);
        }, desk -> {
            Stories.begun(desk);
            other.tell(desk);
        });
    }

    private static void toldAnew() {
        begunAnd("terms anew", desk -> { desk.terms(0, 9); desk.terms(0, 8); }, desk -> desk.terms(0, 8));
        begunAnd("measures anew", desk -> { desk.measures(2, 0, 9); desk.measures(2, 0, 8); },
            desk -> desk.measures(2, 0, 8));
        begunAnd("stores anew", desk -> { desk.stores(2, 9); desk.stores(2, 8); }, desk -> desk.stores(2, 8));
        begunAnd("indexes anew", desk -> { desk.indexes(4, 900); desk.indexes(4, 800); }, desk -> desk.indexes(4, 800));
        begunAnd("pays anew", desk -> { desk.pays(2, 9); desk.pays(2, 8); }, desk -> desk.pays(2, 8));
        begunAnd("alters", desk -> { desk.change(2, 1, 9, 7); desk.alters(0, -8); }, desk -> desk.change(2, 1, -8, 7));
        begunAnd("handover anew, later", desk -> { desk.handover(2); desk.handover(9); }, desk -> desk.handover(9));
        begunAnd("handover anew, earlier", desk -> { desk.handover(9); desk.handover(2); }, desk -> desk.handover(2));
        begunAnd("closes anew", desk -> { desk.handover(2); desk.closes(9); desk.closes(2); },
            desk -> { desk.handover(2); desk.closes(2); });
        begunAnd("due anew: what is GRANTED stays", desk -> { desk.due(2); desk.grants(3); desk.due(1); },
            desk -> { desk.due(1); desk.grants(3); });
        begunAnd("grants more", desk -> { desk.due(2); desk.grants(3); desk.grants(9); },
            desk -> { desk.due(2); desk.grants(12); });
    }

    private static void toldAndTakenBack() {
        begunAnd("strikes", desk -> { desk.measures(2, 0, 9); desk.strikes(2, 0); }, desk -> { });
        begunAnd("strikes in the first MONTH", desk -> { desk.measures(0, 0, 9); desk.strikes(0, 0); }, desk -> { });
        begunAnd("strikes in the last MONTH", desk -> { desk.measures(23, 1, 9); desk.strikes(23, 1); }, desk -> { });
        begunAnd("pays 0", desk -> { desk.pays(2, 9); desk.pays(2, 0); }, desk -> { });
        begunAnd("terms back", desk -> { desk.terms(5, 9); desk.terms(5, 250); }, desk -> { });
    }

    private static void toldInAnotherOrder() {
        begunAnd("measures, later first", desk -> { desk.measures(9, 0, 3); desk.measures(2, 0, 8); },
            desk -> { desk.measures(2, 0, 8); desk.measures(9, 0, 3); });
        begunAnd("stores, later first", desk -> { desk.stores(9, 3); desk.stores(0, 8); },
            desk -> { desk.stores(0, 8); desk.stores(9, 3); });
        begunAnd("indexes, later first", desk -> { desk.indexes(9, 900); desk.indexes(0, 800); },
            desk -> { desk.indexes(0, 800); desk.indexes(9, 900); });
        begunAnd("strikes between", desk -> { desk.measures(9, 0, 3); desk.measures(5, 0, 2); desk.strikes(5, 0); },
            desk -> desk.measures(9, 0, 3));
    }

    /** What was cut off does not come back, neither by end() nor by sign(). */
    private static void signsAreToldAnew() {
        begunAnd("end cuts off", desk -> { Check.text(desk, "2:3*45678"); desk.end(6); }, desk -> Check.text(desk, "2:3*45"));
        begunAnd("sign behind the end", desk -> { Check.text(desk, "2:3*45678"); desk.end(2); desk.sign(0x312A3233); },
            desk -> Check.text(desk, "2:1*23"));
        begunAnd("end as long as it is", desk -> { Check.text(desk, "2:3*4"); desk.end(5); }, desk -> Check.text(desk, "2:3*4"));
        Twins.sameButTheRow("bill reads what is left", desk -> { Check.text(desk, "2:3*45;0:1*1"); desk.end(6); desk.bill(); },
            desk -> Check.bill(desk, "2:3*45"));
    }

    private static void billForgetsAllButTerms() {
        for (String text : new String[] {"", "2:7*9", "0:100*10;1:50*20;0:20*33"}) {
            Twins.sameButTheRow("a bill of '" + text + "' behind all", desk -> {
                Stories.full(desk);
                Check.bill(desk, text);
            }, desk -> {
                Check.bill(desk, text);
                Stories.someTerms(desk);
            });
        }
        Twins.sameButTheRow("a bill of nothing, of a new desk", desk -> desk.bill(), desk -> { });
    }

    /** What is told behind a BILL meets nothing of what was told ahead of it. */
    private static void toldBehindABill() {
        Twins.same("told behind a bill", desk -> {
            Stories.full(desk);
            Check.bill(desk, "0:5*5");
            secondStory(desk);
        }, desk -> {
            Stories.someTerms(desk);
            Check.bill(desk, "0:5*5");
            secondStory(desk);
        });
    }

    private static void secondStory(WorksDesk desk) {
        desk.measures(6, 0, 3);
        for (int setOff = 0; setOff < 6; setOff++) {
            desk.setsOff(setOff, 50);
        }
        desk.disputes(2, 3);
        desk.change(2, 3, 4, 5);
        desk.handover(6);
        desk.due(1);
        desk.sum();
    }

    /** No state of all desks: what one is told another does not know. */
    private static void desksAreApart() {
        Twins.same("a desk beside another", desk -> {
            Stories.full(new WorksDesk());
            Stories.begun(desk);
            Stories.full(new WorksDesk());
        }, Stories::begun);
    }
}
