import com.sun.management.ThreadMXBean;
import java.lang.management.ManagementFactory;

/** All rows are made in the constructors: no call makes an object, but for the exceptions that are due. */
public final class RoomTest {
    private static final int ROUNDS = 200;
    private static long sink = 0;

    public static void main(String[] args) {
        if (!(ManagementFactory.getThreadMXBean() instanceof ThreadMXBean)) {
            System.out.println("RoomTest: this machine does not count what is made");
            return;
        }
        ThreadMXBean threads = (ThreadMXBean) ManagementFactory.getThreadMXBean();
        WorksDesk desk = Check.desk("0:100*10;1:50*20;1:10*33");
        rounds(desk);
        long before = threads.getThreadAllocatedBytes(Thread.currentThread().getId());
        rounds(desk);
        long made = threads.getThreadAllocatedBytes(Thread.currentThread().getId()) - before;
        roomOfADesk(threads);
        Check.is("bytes made by " + ROUNDS + " rounds of calls (" + made + ") are next to none", made < 8 * ROUNDS, true);
        Check.end("RoomTest");
    }

    /** A room of 7.3 million elements holds some hundreds of desks with ease: a desk has some 2,000 of them. */
    private static void roomOfADesk(ThreadMXBean threads) {
        long before = threads.getThreadAllocatedBytes(Thread.currentThread().getId());
        for (int i = 0; i < ROUNDS; i++) {
            sink += new WorksDesk().count(0);
        }
        long made = (threads.getThreadAllocatedBytes(Thread.currentThread().getId()) - before) / ROUNDS;
        Check.is("bytes made by a new desk (" + made + ") are few", made < 20000, true);
    }

    private static void rounds(WorksDesk desk) {
        for (int round = 0; round < ROUNDS; round++) {
            tell(desk, round);
            ask(desk);
        }
    }

    private static void tell(WorksDesk desk, int round) {
        desk.sign(0x303A312A);
        desk.sign(0x3130303B);
        desk.end(7);
        desk.bill();
        desk.terms(round % 14, round % 7);
        desk.measures(round % 24, 0, round);
        desk.measures(3, 0, 9);
        desk.strikes(3, 0);
        desk.stores(1, round);
        desk.change(2, 1, 5, 6);
        desk.alters(0, -5);
        desk.setsOff(1, 50);
        desk.setsOff(1, 50);
        desk.disputes(0, 2);
        desk.decides(0, 3, 300);
        desk.handover(6);
        desk.closes(9);
        desk.pays(3, round);
        desk.due(2);
        desk.grants(1);
        desk.indexes(1, 1100);
    }

    private static void ask(WorksDesk desk) {
        sink += desk.amount(3, 7) + desk.item(3, 0) + desk.priced(0) + desk.held(0, 3) + desk.sum() + desk.lines(4);
        sink += desk.recovered() + desk.limited() + desk.reaches(100) + desk.worst() + desk.clears(3) + desk.paces(2, 50);
        sink += desk.enough(1, 9) + desk.shifts(2, 0, 30) + desk.were(1, 2) + desk.dearest() + desk.ends(0);
        sink += desk.leads(2) + desk.above(3) + desk.like(1, 5) + desk.would(0, 9) + desk.keeps(5) + desk.overdue();
        sink += desk.needed() + desk.rises(2, 900) + desk.account() + desk.count(5) + desk.row(0);
    }
}
