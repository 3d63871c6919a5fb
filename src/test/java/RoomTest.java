import com.sun.management.ThreadMXBean;
import java.lang.management.ManagementFactory;

/**
 * All that a run makes has to find room: some 600,000 objects and arrays with 7.3 million fields
 * and elements. A byte is the least that an element takes, and 16 bytes the least for an object: so
 * what takes less bytes than there may be elements has room in both ways.
 */
public final class RoomTest {
    private static final long MOST_BYTES = 7_300_000;
    private static final int CALLS = 512;
    /** What makes a full table: 10 rows, 10 columns, 100 costs. */
    private static final int BUILDING_CALLS = 120;

    private interface Act {
        void on(AssignmentDesk desk, int call);
    }

    private static long bytesMade() {
        ThreadMXBean threads = (ThreadMXBean) ManagementFactory.getThreadMXBean();
        return threads.getThreadAllocatedBytes(Thread.currentThread().getId());
    }

    private static void hasRoom(String name, Act act) {
        long before = bytesMade();
        AssignmentDesk desk = Desks.even(10, 5);
        for (int call = BUILDING_CALLS; call < CALLS; call++) {
            act.on(desk, call);
        }
        long made = bytesMade() - before;
        Check.same(name + " made " + made + " bytes, and this is in the room",
                made > 0 && made < MOST_BYTES, true);
    }

    private static void refuse(AssignmentDesk desk) {
        try {
            desk.rankedCost(-1);
            Check.same("rankedCost(-1) throws", false, true);
        } catch (IndexOutOfBoundsException refused) {
            // An exception is an object too.
        }
    }

    /** One after another, so that what was found out for one call is of no use to the next. */
    private static void callInTurn(AssignmentDesk desk, int call) {
        int place = call / 8 % 10;
        switch (call % 8) {
            case 0:
                desk.setCost(place, 9 - place, call);
                break;
            case 1:
                desk.optimalCount();
                break;
            case 2:
                desk.greatestCost(9, place);
                break;
            case 3:
                desk.rank(30);
                break;
            case 4:
                desk.push();
                break;
            case 5:
                desk.scaleColumn(place, 1.1);
                break;
            case 6:
                desk.digest();
                break;
            default:
                desk.pop();
                break;
        }
    }

    public static void main(String[] args) {
        hasRoom("rank", (desk, call) -> desk.rank(30));
        hasRoom("greatestCost", (desk, call) -> desk.greatestCost(9, call % 10));
        hasRoom("loss", (desk, call) -> desk.loss(9, call % 10));
        hasRoom("optimalCount", (desk, call) -> desk.optimalCount());
        hasRoom("setRow", (desk, call) -> desk.setRow(0, call % 2 == 0));
        hasRoom("digest", (desk, call) -> desk.digest());
        hasRoom("a refused call", (desk, call) -> refuse(desk));
        hasRoom("calls in turn", RoomTest::callInTurn);
        Check.end();
    }
}
