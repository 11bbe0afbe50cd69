/** The super, which repair there is, promises 7 (check) and 8 (repair), and writing with crashes. */
public final class SuperTest {
    private static final Expect expect = new Expect();

    public static void main(String[] args) {
        markMustBeRight();
        sumMustBeRight();
        firstSuperOrElseTheLast();
        checkWritesNothing();
        checkWithoutASuper();
        crashesCutWriting();
        differingBlocksAloneAreWritten();
        repairRefuses();
        bothSupersAreAlike();
        expect.end();
    }

    /** A disk of bytes 0 but for a good super in one of the two blocks. */
    private static Bench withOneSuper(int block) {
        Bench bench = new Bench();
        bench.text(block * 64, "SFSK");
        bench.desk.seal(block == 0 ? 0 : 1);
        return bench;
    }

    private static void markMustBeRight() {
        expect.sentence("It is GOOD when SFSK and its sum are right. [SFSK]");
        for (int block = 0; block < 64; block += 63) {
            expect.same("check() with a super in " + block, withOneSuper(block).desk.check(), 6);
            for (int k = 0; k < 4; k++) {
                for (int by = -1; by <= 1; by += 2) {
                    Bench bench = withOneSuper(block);
                    bench.change(block * 64 + k, by);
                    bench.desk.seal(block == 0 ? 0 : 1);
                    expect.same("check() with byte " + k + " of block " + block + " wrong", bench.desk.check(), -1);
                }
            }
        }
    }

    private static void sumMustBeRight() {
        expect.sentence("It is GOOD when SFSK and its sum are right. [its sum]");
        for (int block = 0; block < 64; block += 63) {
            int place = block * 64;
            for (int[] wrong : new int[][] {{63, 1}, {63, -1}, {62, 1}, {62, -1}, {61, 1}, {4, 1}}) {
                Bench bench = withOneSuper(block);
                bench.change(place + wrong[0], wrong[1]);
                expect.same("check() with byte " + wrong[0] + " of block " + block + " changed", bench.desk.check(), -1);
            }
            Bench bench = withOneSuper(block);
            bench.fill(place + 4, 58, 255);
            bench.desk.seal(block == 0 ? 0 : 1);
            expect.same("its sum", bench.pair(place + 62), 311 + 58 * 255);
            expect.same("check() with all other bytes 255, but sealed", bench.desk.check(), 6);
        }
    }

    private static void firstSuperOrElseTheLast() {
        expect.sentence("REPAIR, if the super in block 0 is good, or else that in block 63 (otherwise there is none)");
        Bench bench = Bench.formatted();
        bench.change(63, 1);
        expect.same("the first one bad", bench.desk.check(), 1);
        expect.same("repair(-1)", bench.desk.repair(-1), 1);
        expect.same("the first one is written", bench.pair(62), 385);
        bench.change(63 * 64, 1);
        expect.same("the last one bad", bench.desk.repair(-1), 1);
        expect.same("the last one is written", bench.desk.peek(63 * 64), 'S');
        bench.change(63, 1);
        bench.change(63 * 64, 1);
        int[] before = bench.snapshot();
        expect.same("both bad: check()", bench.desk.check(), -1);
        expect.same("both bad: repair(-1)", bench.desk.repair(-1), -1);
        expect.same("both bad: repair(64)", bench.desk.repair(64), -1);
        expect.unchanged("both bad", bench, before);
    }

    private static void checkWritesNothing() {
        expect.sentence("How many blocks a repair would write");
        Bench bench = Bench.formatted();
        expect.same("none", bench.desk.check(), 0);
        bench.desk.poke(448, 0);
        expect.same("one", bench.desk.check(), 1);
        bench.fill(0, 64, 3);
        bench.fill(64, 64, 3);
        bench.fill(512, 512, 3);
        int[] before = bench.snapshot();
        // blocks 0, 1, 7 and 8 to 15; 16 and 17 are as before, the root and lost and found being made there
        expect.same("eleven", bench.desk.check(), 11);
        expect.same("eleven again", bench.desk.check(), 11);
        expect.unchanged("behind check()", bench, before);
        expect.same("repair(-1)", bench.desk.repair(-1), 11);
    }

    private static void checkWithoutASuper() {
        expect.sentence("How many blocks a repair would write; NONE when there is none.");
        expect.same("check() of a new disk", new FsckDesk().check(), -1);
        expect.same("check() with a super", withOneSuper(0).desk.check(), 6);
    }

    private static void crashesCutWriting() {
        expect.sentence("with a crash after so many blocks nothing more is.");
        for (int crash = 0; crash <= 64; crash++) {
            Bench bench = withOneSuper(63);
            expect.same("repair(" + crash + ")", bench.desk.repair(crash), Math.min(crash, 6));
            int[] firsts = {0, 448, 528, 1024, 1088};
            for (int k = 0; k < firsts.length; k++) {
                expect.same("repair(" + crash + "): written of the " + k + "th block",
                    bench.desk.peek(firsts[k]) == 0 ? 0 : 1, crash > k ? 1 : 0);
            }
            expect.same("repair(" + crash + "): the last super", bench.pair(63 * 64 + 62), crash > 5 ? 385 : 311);
            expect.same("repair(" + crash + "): the rest", bench.desk.check(), 6 - Math.min(crash, 6));
        }
    }

    private static void differingBlocksAloneAreWritten() {
        expect.sentence("what comes of the passes is written block by block, those that differ, from block 0 on");
        Bench bench = Bench.formatted();
        bench.desk.poke(511, 1);
        bench.desk.poke(1023, 1);
        bench.desk.poke(16 * 64, 5);
        bench.desk.poke(4093, 1);
        expect.same("repair(2) of 7, 15, 16 and 63", bench.desk.repair(2), 2);
        expect.same("block 7 is written", bench.desk.peek(511), 0);
        expect.same("block 15 is written", bench.desk.peek(1023), 0);
        expect.same("block 16 is not", bench.desk.peek(16 * 64), 5);
        expect.same("block 63 is not", bench.desk.peek(4093), 1);
        expect.same("repair(2) of what is left", bench.desk.repair(2), 2);
        expect.same("block 63 is written", bench.desk.peek(4093), 0);
        expect.same("repair(2) of nothing", bench.desk.repair(2), 0);
    }

    private static void repairRefuses() {
        expect.sentence("NONE when there is no repair, or crash is not NONE .. 64.");
        Bench bench = Bench.formatted();
        bench.desk.poke(448, 0);
        int[] before = bench.snapshot();
        for (int crash : new int[] {-2, -64, 65, 66, Integer.MIN_VALUE, Integer.MAX_VALUE}) {
            expect.same("repair(" + crash + ")", bench.desk.repair(crash), -1);
        }
        expect.unchanged("behind refused repairs", bench, before);
        expect.same("repair(0)", bench.desk.repair(0), 0);
        expect.unchanged("behind repair(0)", bench, before);
        expect.same("repair(64)", bench.desk.repair(64), 1);
        bench.desk.poke(448, 0);
        expect.same("repair(-1)", bench.desk.repair(-1), 1);
        for (int crash : new int[] {-2, -1, 0, 1, 64, 65}) {
            expect.same("repair(" + crash + ") of a new disk", new FsckDesk().repair(crash), -1);
        }
    }

    private static void bothSupersAreAlike() {
        expect.sentence("Block 0, and block 63 alike: THE SUPER");
        Bench bench = Bench.nearlyFull(0);
        for (int i = 4; i < 32; i++) {
            bench.node(i, 1, 0);
        }
        // the first two of these find a place in lost and found, the others can't be put
        bench.desk.repair(-1);
        expect.same("no free block", bench.freeBlocks(), 0);
        expect.same("free inodes", bench.freeInodes(), 26);
        for (int k = 0; k < 64; k++) {
            expect.same("byte " + k, bench.desk.peek(63 * 64 + k), bench.desk.peek(k));
        }
    }
}
