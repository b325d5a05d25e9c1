import java.util.regex.Matcher;
import java.util.regex.Pattern;

/**
 * Promise 4 over many texts: all short endings behind some beginnings, and BILLS with one sign changed, put in or left
 * out. The fault that is due is found by patterns, not by reading sign for sign as the class does.
 */
public final class BillTextsTest {
    private static final int NO_FAULT = -1;
    private static final String SIGNS = "0145:*;x";
    private static final String NUMBER = "(?!0+(?!\\d))\\d{1,3}";
    private static final String ITEM = "[0-4]:" + NUMBER + "\\*" + NUMBER;
    private static final Pattern BILL = Pattern.compile("(?s)" + ITEM + "(;" + ITEM + "){0,9}");
    /** What may stand ahead of an ITEM's fault: whole ITEMS, each with the ; behind it, nine at most. */
    private static final Pattern ITEMS_AHEAD = Pattern.compile("(" + ITEM + ";){0,9}+");
    /** How far an ITEM goes as it may; a number of 0 with no digit behind it goes as far as its last digit. */
    private static final Pattern GOOD_PART =
        Pattern.compile("([0-4](:(0{1,3}(?!\\d)|\\d{1,3}(\\*(0{1,3}(?!\\d)|\\d{1,3})?)?)?)?)?");
    private static final Pattern ENDS_IN_NOTHING = Pattern.compile("[0-4]:(\\d{1,3}\\*)?0{1,3}");

    /** So many texts keep a desk below its 512 calls. */
    private static final int TEXTS_OF_A_DESK = 12;

    private WorksDesk desk = new WorksDesk();
    private int texts = 0;

    public static void main(String[] args) {
        BillTextsTest test = new BillTextsTest();
        test.finderItself();
        for (String beginning : new String[] {"", "0:", "3:00", "2:1*", "1:9*00", "0:1*2;", "0:1*2;4:7*"}) {
            test.allEndings(beginning, 5);
        }
        test.changedBills();
        Check.end("BillTextsTest");
    }

    /** The finder is tried by hand, so that it is no mere copy of what the class does. */
    private void finderItself() {
        String[] texts = {"0:1*0000:1", "0:0000", "0:000", "0:000*1", "0:0", "0:0x", "0:1*00", "0:1*001", "5", "0:1*1;",
            "0:1*1234", "0:0010*1", "0", "0:1*", "0:1*1;0:1*1x"};
        int[] faults = {7, 5, 4, 4, 2, 2, 5, NO_FAULT, 0, 6, 7, 5, 1, 4, 11};
        for (int i = 0; i < texts.length; i++) {
            Check.is("the fault of " + texts[i], fault(texts[i]), faults[i]);
        }
    }

    private void allEndings(String beginning, int more) {
        compare(beginning);
        if (more > 0) {
            for (int i = 0; i < SIGNS.length(); i++) {
                allEndings(beginning + SIGNS.charAt(i), more - 1);
            }
        }
    }

    private void changedBills() {
        String five = "0:100*200;1:020*3;2:1*001;3:999*999;4:10*010";
        String ten = five + ";" + five;
        for (String bill : new String[] {five, ten, ten + ";", ten + ";0:1*1", ten.replace("010", "000")}) {
            for (int p = 0; p <= bill.length(); p++) {
                String ahead = bill.substring(0, p);
                compare(ahead);
                for (int i = 0; i < SIGNS.length(); i++) {
                    compare(ahead + SIGNS.charAt(i) + bill.substring(p));
                    compare(ahead + SIGNS.charAt(i) + bill.substring(Math.min(p + 1, bill.length())));
                }
                compare(ahead + bill.substring(Math.min(p + 1, bill.length())));
            }
        }
    }

    private void compare(String text) {
        texts++;
        if (texts % TEXTS_OF_A_DESK == 0) {
            desk = new WorksDesk();
        }
        int fault = fault(text);
        int due = fault != NO_FAULT ? -1 - fault : text.isEmpty() ? 0 : text.split(";").length;
        Check.is("bill of " + text, Check.bill(desk, text), due);
        Check.is("signs behind bill of " + text, desk.count(7), 0);
    }

    private static int fault(String text) {
        if (text.isEmpty() || BILL.matcher(text).matches()) {
            return NO_FAULT;
        }
        Matcher ahead = ITEMS_AHEAD.matcher(text);
        int start = ahead.lookingAt() ? ahead.end() : 0;
        Matcher part = GOOD_PART.matcher(text).region(start, text.length());
        int end = part.lookingAt() ? part.end() : start;
        String good = text.substring(start, end);
        boolean digitBehind = end < text.length() && Character.isDigit(text.charAt(end));
        return ENDS_IN_NOTHING.matcher(good).matches() && !digitBehind ? end - 1 : end;
    }
}
