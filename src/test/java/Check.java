import java.util.NoSuchElementException;

/** What the tests share: they count and print each answer that is not the one that is due. */
final class Check {
    private static int wrong = 0;
    private static int asked = 0;

    private Check() {
    }

    static void is(String call, long got, long due) {
        asked++;
        if (got != due) {
            wrong++;
            System.out.println(call + " answered " + got + ", due is " + due);
        }
    }

    static void is(String call, boolean got, boolean due) {
        is(call, got ? 1 : 0, due ? 1 : 0);
    }

    /** The whole ROW, its length too. */
    static void row(String call, WorksDesk desk, long... due) {
        is(call + ": numbers of the ROW", desk.count(6), due.length);
        for (int i = 0; i < due.length && i < desk.count(6); i++) {
            is(call + ": row(" + i + ")", desk.row(i), due[i]);
        }
        is(call + ": row(-1) throws", throwsAtRow(desk, -1), true);
        is(call + ": row behind its end throws", throwsAtRow(desk, due.length), true);
    }

    static boolean throwsAtRow(WorksDesk desk, int i) {
        try {
            desk.row(i);
            return false;
        } catch (NoSuchElementException e) {
            return true;
        }
    }

    static boolean throwsAtAmount(WorksDesk desk, int month, int what) {
        try {
            desk.amount(month, what);
            return false;
        } catch (NoSuchElementException e) {
            return true;
        }
    }

    /** THE TEXT becomes the text; signs that fill up the last four are cut off. */
    static void text(WorksDesk desk, String text) {
        desk.end(0);
        for (int at = 0; at < text.length(); at += 4) {
            int four = 0;
            for (int i = at; i < at + 4; i++) {
                four = four << 8 | (i < text.length() ? text.charAt(i) & 255 : 0);
            }
            desk.sign(four);
        }
        desk.end(text.length());
    }

    static int bill(WorksDesk desk, String text) {
        text(desk, text);
        return desk.bill();
    }

    static WorksDesk desk(String bill) {
        WorksDesk desk = new WorksDesk();
        bill(desk, bill);
        return desk;
    }

    static void end(String test) {
        System.out.println(test + ": " + asked + " answers, " + wrong + " wrong");
        if (wrong != 0 || asked == 0) {
            System.exit(1);
        }
    }
}
