import com.sun.management.ThreadMXBean;
import java.lang.management.ManagementFactory;

/** That all rows are made in the constructor: the room of a run does not fill up with its calls. */
public final class RoomTest {
    /** A row of one block would take more than this in some hundred calls; the machine itself may take a little. */
    private static final long LITTLE = 16384;

    private static final Expect expect = new Expect();
    private static final ThreadMXBean thread = (ThreadMXBean) ManagementFactory.getThreadMXBean();

    public static void main(String[] args) {
        anObjectIsSmall();
        callsTakeNothing();
        expect.end();
    }

    private static long taken() {
        return thread.getCurrentThreadAllocatedBytes();
    }

    private static void anObjectIsSmall() {
        expect.sentence("[what an object has] 64 BLOCKS of 64 bytes.");
        new FsckDesk();
        long before = taken();
        FsckDesk desk = new FsckDesk();
        long bytes = taken() - before;
        expect.same("peek(0)", desk.peek(0), 0);
        expect.yes("two images and little more, not " + bytes, bytes < 2 * 4096 * 4 + LITTLE);
    }

    private static void callsTakeNothing() {
        expect.sentence("[what a run takes] An object is used for at most 512 calls after it has been made");
        run(new FsckDesk());
        FsckDesk desk = new FsckDesk();
        long before = taken();
        int answered = run(desk);
        long bytes = taken() - before;
        expect.same("calls", answered, 512);
        expect.yes("next to nothing, not " + bytes, bytes < LITTLE);
    }

    /** 512 calls of all kinds: how many they were. */
    private static int run(FsckDesk desk) {
        int calls = 0;
        for (int round = 0; round < 32; round++) {
            desk.format();
            desk.make(1, 'a', 1);
            desk.make(1, 'b', 2);
            desk.append(3, round);
            desk.link(4, 'c', 3);
            desk.find(4, 'c');
            desk.read(3, 0);
            desk.inode(3, 1);
            desk.peek(round);
            desk.unlink(1, 'a');
            desk.commit(18L << 56, 1);
            desk.seal(2);
            desk.poke(1024 + round, 255);
            desk.check();
            desk.repair(1);
            desk.repair(FsckDesk.NONE);
            calls += 16;
        }
        return calls;
    }
}
