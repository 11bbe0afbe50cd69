/** Promise 13 (append). */
public final class AppendTest {
    private static final Expect expect = new Expect();

    public static void main(String[] args) {
        bytesComeAtTheEnd();
        blocksCome();
        newBlocksAreBlank();
        notConsistent();
        noFileInUse();
        noByte();
        sizeAbove2944();
        noBlockForIt();
        noIndirectBlockForIt();
        expect.end();
    }

    private static void refuses(Bench bench, int i, int b) {
        String what = "append(" + i + ", " + b + ")";
        int[] before = bench.snapshot();
        expect.no(what, bench.desk.append(i, b));
        expect.unchanged(what, bench, before);
    }

    private static void bytesComeAtTheEnd() {
        expect.sentence("One byte more at the end of a file on a consistent disk");
        Bench bench = Bench.formatted();
        bench.make(1, "a", 1);
        for (int k = 0; k < 385; k++) {
            expect.yes("append", bench.desk.append(3, k * 7 % 256));
            expect.same("size", bench.desk.inode(3, 2), k + 1);
            expect.same("check()", bench.desk.check(), 0);
        }
        for (int k = 0; k < 385; k++) {
            expect.same("read(3, " + k + ")", bench.desk.read(3, k), k * 7 % 256);
        }
        expect.same("behind the end", bench.desk.read(3, 385), -1);
        expect.same("links stay", bench.desk.inode(3, 1), 1);
    }

    private static void blocksCome() {
        expect.sentence("(a new block, and an indirect one, come as in TO PUT");
        Bench bench = Bench.formatted();
        bench.make(1, "a", 1);
        int[] free = {45, 44, 43, 42, 41, 40, 38, 37};
        for (int k = 0; k <= 384; k++) {
            if (k % 64 == 0) {
                expect.same("free blocks of a file of " + k, bench.freeBlocks(), free[k / 64]);
            }
            bench.desk.append(3, 5);
            expect.same("free blocks behind " + k, bench.freeBlocks(), free[k / 64 + 1]);
        }
        for (int k = 0; k < 5; k++) {
            expect.same("pointer " + k, bench.pointer(3, k), 18 + k);
        }
        expect.same("the sixth block comes before the indirect one", bench.indirect(3), 24);
        expect.same("it tells the sixth block", bench.desk.peek(24 * 64), 23);
        expect.same("and the seventh", bench.desk.peek(24 * 64 + 1), 25);
    }

    private static void newBlocksAreBlank() {
        expect.sentence("and are all 0 but for that byte, and those that tell blocks)");
        Bench bench = Bench.formatted();
        bench.make(1, "a", 1);
        bench.fill(18 * 64, 8 * 64, 200);
        for (int k = 0; k < 385; k++) {
            bench.desk.append(3, 7);
            int block = k < 320 ? 18 + k / 64 : k < 384 ? 23 : 25;
            expect.yes("behind byte " + k, bench.isBlank(block * 64 + k % 64 + 1, 63 - k % 64));
            if (k >= 320) {
                int told = k < 384 ? 1 : 2;
                expect.yes("behind what is told", bench.isBlank(24 * 64 + told, 64 - told));
            }
        }
        bench.fill(25 * 64 + 1, 63, 9);
        bench.desk.append(3, 8);
        expect.same("a block that it had", bench.desk.peek(25 * 64 + 1), 8);
        expect.same("keeps its bytes behind", bench.desk.peek(25 * 64 + 2), 9);
    }

    private static void notConsistent() {
        expect.sentence("False, changing nothing, when it is not consistent");
        Bench bench = Bench.withFileAndDirectory();
        for (int[] wrong : Bench.SPOILT) {
            bench.desk.poke(wrong[0], wrong[1]);
            refuses(bench, 3, 1);
            bench.desk.repair(-1);
        }
        expect.yes("a consistent one", bench.desk.append(3, 1));
        bench.bytes(0, 0);
        bench.bytes(4032, 0);
        refuses(bench, 3, 1);
    }

    private static void noFileInUse() {
        expect.sentence("or i is no file in use");
        Bench bench = Bench.withFileAndDirectory();
        for (int i : new int[] {-1, 0, 1, 2, 4, 5, 31, 32, 35, Integer.MIN_VALUE, Integer.MAX_VALUE, 1 << 28 | 3}) {
            refuses(bench, i, 1);
        }
        bench = Bench.formatted();
        for (int i = 3; i < 32; i++) {
            bench.desk.make(1, 'A' + i, 1);
        }
        expect.yes("the first one that may be", bench.desk.append(3, 1));
        expect.yes("the last one that may be", bench.desk.append(31, 1));
    }

    private static void noByte() {
        expect.sentence("or b not 0 .. 255");
        Bench bench = Bench.withFileAndDirectory();
        for (int b : new int[] {-1, -256, 256, 257, Integer.MIN_VALUE, Integer.MAX_VALUE}) {
            refuses(bench, 3, b);
        }
        expect.yes("a byte of 0", bench.desk.append(3, 0));
        expect.yes("a byte of 255", bench.desk.append(3, 255));
        expect.same("the first one", bench.desk.read(3, 0), 0);
        expect.same("the second one", bench.desk.read(3, 1), 255);
    }

    private static void sizeAbove2944() {
        expect.sentence("or its size would be above 2944");
        // the root and lost and found leave a file 44 blocks and an indirect one: there is no greater one to be had
        Bench bench = Bench.nearlyFull(0);
        expect.same("size", bench.desk.inode(3, 2), 2816);
        refuses(bench, 3, 1);
        bench = Bench.withSuper();
        bench.bigNode(3, 1, 2944, 16);
        refuses(bench, 3, 1);
        bench.desk.repair(-1);
        refuses(bench, 3, 1);
    }

    private static void noBlockForIt() {
        expect.sentence("or there is no block for it.");
        Bench bench = Bench.nearlyFull(0);
        bench.make(2, "x", 1);
        refuses(bench, 4, 1);
        bench = Bench.nearlyFull(1);
        expect.yes("the last block", bench.desk.append(3, 1));
        expect.same("check()", bench.desk.check(), 0);
        for (int k = 1; k < 64; k++) {
            expect.yes("its byte " + k, bench.desk.append(3, k));
        }
        refuses(bench, 3, 1);
    }

    /** A consistent disk with file 3 of five blocks and file 4 that leaves so many blocks free. */
    private static Bench withFiveBlocks(int free) {
        Bench bench = Bench.formatted();
        bench.node(3, 1, 320, 18, 19, 20, 21, 22);
        bench.bigNode(4, 1, (39 - free) * 64, 23);
        bench.entry(16, 3, 3, "five");
        bench.entry(17, 2, 4, "big");
        bench.desk.repair(-1);
        expect.same("free blocks", bench.freeBlocks(), free);
        return bench;
    }

    private static void noIndirectBlockForIt() {
        expect.sentence("or there is no block for it. [nor an indirect one]");
        refuses(withFiveBlocks(0), 3, 1);
        refuses(withFiveBlocks(1), 3, 1);
        Bench bench = withFiveBlocks(2);
        expect.yes("two are enough", bench.desk.append(3, 1));
        expect.same("free blocks", bench.freeBlocks(), 0);
        expect.same("check()", bench.desk.check(), 0);
    }
}
