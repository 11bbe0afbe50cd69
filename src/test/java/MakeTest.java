/** Promise 12 (make). */
public final class MakeTest {
    private static final Expect expect = new Expect();

    public static void main(String[] args) {
        makeAFile();
        makeADirectory();
        firstFreeInode();
        everyDirectoryTakesEntries();
        consistentAgain();
        notConsistent();
        noDirectoryInUse();
        namesThatAreNone();
        namesWithBadBytes();
        namesThatAreThere();
        lostAndFoundsName();
        otherKinds();
        noInode();
        noBlock();
        entryCannotBePut();
        blockIsTakenFirst();
        expect.end();
    }

    private static void refuses(Bench bench, int dir, long name, int kind) {
        String what = "make(" + dir + ", " + name + ", " + kind + ")";
        int[] before = bench.snapshot();
        expect.same(what, bench.desk.make(dir, name, kind), -1);
        expect.unchanged(what, bench, before);
    }

    private static void refusesBoth(Bench bench, int dir, long name) {
        refuses(bench, dir, name, 1);
        refuses(bench, dir, name, 2);
    }

    private static void makeAFile() {
        expect.sentence("A new file (kind 1) (..) with a name in a directory");
        Bench bench = Bench.formatted();
        expect.same("make", bench.make(1, "a", 1), 3);
        expect.same("its entry", bench.entryAt(16, 3, "a"), 3);
        expect.same("kind", bench.desk.inode(3, 0), 1);
        expect.same("links", bench.desk.inode(3, 1), 1);
        expect.same("size", bench.desk.inode(3, 2), 0);
        expect.same("no block is taken", bench.freeBlocks(), 45);
        expect.same("free inodes", bench.freeInodes(), 28);
        expect.same("find", bench.find(1, "a"), 3);
    }

    private static void makeADirectory() {
        expect.sentence("a directory with one block (the first free one), and its entry put into it.");
        Bench bench = Bench.formatted();
        bench.fill(18 * 64, 64, 9);
        expect.same("make", bench.make(1, "eightlng", 2), 3);
        expect.same("its block", bench.pointer(3, 0), 18);
        expect.same("its size", bench.desk.inode(3, 2), 64);
        expect.same("its first entry", bench.entryAt(18, 0, "."), 3);
        expect.same("its second one", bench.entryAt(18, 1, ".."), 1);
        expect.yes("no others", bench.isFreeEntry(18, 2) && bench.isFreeEntry(18, 3));
        expect.same("its entry", bench.entryAt(16, 3, "eightlng"), 3);
        expect.same("links", bench.desk.inode(3, 1), 2);
        expect.same("links of the root", bench.desk.inode(1, 1), 4);
        expect.same("free blocks", bench.freeBlocks(), 44);
        bench.desk.append(bench.make(2, "f", 1), 1);
        bench.unlink(1, "eightlng");
        expect.same("again", bench.make(2, "d", 2), 3);
        expect.same("the first free block", bench.pointer(3, 0), 18);
        expect.same("..", bench.entryAt(18, 1, ".."), 2);
    }

    private static void firstFreeInode() {
        expect.sentence("the first free inode of 3 .. 31 (..) Its number.");
        Bench bench = Bench.formatted();
        for (int i = 3; i < 32; i++) {
            expect.same("make", bench.desk.make(1, 'A' + i, 1), i);
        }
        for (int i : new int[] {31, 3, 17}) {
            bench.desk.unlink(1, 'A' + i);
            expect.same("the one that is free", bench.desk.make(1, 'A' + i, 1), i);
        }
        bench.desk.unlink(1, 'A' + 20);
        bench.desk.unlink(1, 'A' + 10);
        expect.same("the first of two", bench.make(1, "x", 1), 10);
        expect.same("the second one", bench.make(1, "y", 1), 20);
    }

    private static void everyDirectoryTakesEntries() {
        expect.sentence("its entry put into it");
        Bench bench = Bench.withFileAndDirectory();
        expect.same("in lost and found", bench.make(2, "a", 1), 5);
        expect.same("its entry, in the third place", bench.entryAt(17, 2, "a"), 5);
        expect.same("in a directory that was made", bench.make(4, "a", 2), 6);
        expect.same("its entry", bench.entryAt(bench.pointer(4, 0), 2, "a"), 6);
        expect.same("..", bench.entryAt(bench.pointer(6, 0), 1, ".."), 4);
        expect.same("for the next place", bench.make(4, "b", 1), 7);
        expect.same("for a new block", bench.make(4, "c", 1), 8);
        expect.same("size", bench.desk.inode(4, 2), 128);
        expect.same("its entry", bench.entryAt(bench.pointer(4, 1), 0, "c"), 8);
        expect.yes("all 0 behind it", bench.isBlank(bench.pointer(4, 1) * 64 + 16, 48));
        bench.unlink(4, "b");
        expect.same("for a place that became free", bench.make(4, "e", 1), 7);
        expect.same("its entry", bench.entryAt(bench.pointer(4, 0), 3, "e"), 7);
    }

    private static void consistentAgain() {
        expect.sentence("on a consistent disk (which it is again behind this and the three calls below");
        Bench bench = Bench.formatted();
        for (int k = 0; k < 29; k++) {
            int dir = k < 4 ? 1 : 3 + k % 4;
            expect.same("make", bench.desk.make(dir, 'A' + k, k < 4 || k % 3 == 0 ? 2 : 1), 3 + k);
            expect.same("check()", bench.desk.check(), 0);
        }
    }

    private static void notConsistent() {
        expect.sentence("NONE, changing nothing, when it is not consistent");
        Bench bench = Bench.withFileAndDirectory();
        for (int[] wrong : Bench.SPOILT) {
            bench.desk.poke(wrong[0], wrong[1]);
            refusesBoth(bench, 1, 'x');
            bench.desk.repair(-1);
        }
        bench.bytes(0, 0);
        bench.bytes(4032, 0);
        refusesBoth(bench, 1, 'x');
        refusesBoth(new Bench(), 1, 'x');
        bench = Bench.withFileAndDirectory();
        bench.fill(128, 320, 1);
        bench.desk.poke(30 * 64, 1);
        expect.same("blocks 2 to 6 and free ones may hold anything", bench.make(1, "x", 1), 5);
    }

    private static void noDirectoryInUse() {
        expect.sentence("or dir is no directory in use");
        Bench bench = Bench.withFileAndDirectory();
        for (int dir : new int[] {-1, 0, 3, 5, 31, 32, 33, 34, 36, 65, Integer.MIN_VALUE, Integer.MAX_VALUE, 1 << 28 | 1}) {
            refusesBoth(bench, dir, 'x');
        }
        expect.same("one in use", bench.make(4, "x", 1), 5);
    }

    private static void namesThatAreNone() {
        expect.sentence("or the name is 0, . or ..");
        Bench bench = Bench.withFileAndDirectory();
        for (int dir : new int[] {1, 2, 4}) {
            refusesBoth(bench, dir, 0);
            refusesBoth(bench, dir, '.');
            refusesBoth(bench, dir, 0x2e2e);
        }
        expect.same("three dots", bench.make(1, "...", 1), 5);
        expect.same("a dot before", bench.make(1, ".x", 1), 6);
        expect.same("a dot behind", bench.make(1, "x.", 1), 7);
    }

    private static void namesWithBadBytes() {
        expect.sentence("has a byte 0 (behind the first one that is not) or 47");
        Bench bench = Bench.withFileAndDirectory();
        for (int shift = 0; shift < 64; shift += 8) {
            refusesBoth(bench, 1, 0x6162636465666768L & ~(255L << shift) | 47L << shift);
            if (shift < 56) {
                refusesBoth(bench, 1, 0x6162636465666768L & ~(255L << shift));
                refusesBoth(bench, 1, 47L << shift | 97L << 56);
            }
        }
        for (long name : new long[] {'/', 0x2f2f, 0x6100, 0x610062, 0x61000000L, Long.MIN_VALUE}) {
            refusesBoth(bench, 1, name);
        }
        expect.same("the highest byte 0: a name of seven bytes", bench.desk.make(1, 0x0061626364656667L, 1), 5);
        expect.same("46 and 48", bench.desk.make(1, 0x302e, 1), 6);
        expect.same("255 and 1", bench.desk.make(1, 0xff01010101010101L, 1), 7);
        expect.same("eight of 255", bench.desk.make(1, -1, 1), 8);
        expect.same("is found", bench.desk.find(1, -1), 8);
    }

    private static void namesThatAreThere() {
        expect.sentence("or is there already");
        Bench bench = Bench.withFileAndDirectory();
        refusesBoth(bench, 1, 'f');
        refusesBoth(bench, 1, 'd');
        expect.same("in another directory", bench.make(4, "f", 1), 5);
        refusesBoth(bench, 4, 'f');
        expect.same("a longer one", bench.make(1, "ff", 1), 6);
        bench.unlink(1, "f");
        expect.same("one that is no more there", bench.make(1, "f", 2), 3);
        // a name in a second block, with a free place before it
        bench = Bench.formatted();
        bench.make(1, "a", 1);
        bench.make(1, "b", 1);
        bench.unlink(1, "a");
        refusesBoth(bench, 1, 'b');
    }

    private static void lostAndFoundsName() {
        expect.sentence("or is lost+found in the root (it has more than eight bytes)");
        Bench bench = Bench.formatted();
        expect.same("its first eight bytes", bench.make(1, "lost+fou", 1), 3);
        expect.same("its last eight bytes", bench.make(1, "st+found", 1), 4);
        expect.same("lost+found is still there", bench.entryAt(16, 2, "lost+found"), 2);
        expect.same("check()", bench.desk.check(), 0);
    }

    private static void otherKinds() {
        expect.sentence("or kind is another");
        Bench bench = Bench.formatted();
        for (int kind : new int[] {0, 3, -1, 255, 257, 258, Integer.MIN_VALUE, Integer.MAX_VALUE}) {
            refuses(bench, 1, 'x', kind);
        }
    }

    private static void noInode() {
        expect.sentence("or there is no inode or block [no inode]");
        Bench bench = Bench.formatted();
        for (int i = 3; i < 32; i++) {
            bench.desk.make(1, 'A' + i, 1);
        }
        refusesBoth(bench, 1, 'z');
        refusesBoth(bench, 2, 'z');
        bench.desk.unlink(1, 'A' + 9);
        expect.same("one was freed", bench.make(2, "z", 1), 9);
        refusesBoth(bench, 2, 'y');
    }

    private static void noBlock() {
        expect.sentence("or there is no inode or block [no block]");
        Bench bench = Bench.nearlyFull(0);
        refuses(bench, 2, 'x', 2);
        expect.same("a file needs none where there is room for its entry", bench.make(2, "x", 1), 4);
        bench = Bench.nearlyFull(1);
        expect.same("the last block", bench.make(2, "x", 2), 4);
        expect.same("free blocks", bench.freeBlocks(), 0);
        expect.same("check()", bench.desk.check(), 0);
        refuses(bench, 2, 'y', 2);
    }

    private static void entryCannotBePut() {
        expect.sentence("or the entry can't be put");
        Bench bench = Bench.nearlyFull(0);
        refusesBoth(bench, 1, 'x');
        bench = Bench.nearlyFull(1);
        expect.same("the last block for an entry", bench.make(1, "x", 1), 4);
        expect.same("check()", bench.desk.check(), 0);
        expect.same("room for three more", bench.make(1, "y", 1), 5);
        refuses(bench, 1, 'z', 2);
        // a directory of five full blocks needs two, one of more than five needs one
        bench = fullRoot(5, 1);
        refuses(bench, 1, 'x', 1);
        expect.same("with two", fullRoot(5, 2).make(1, "x", 1), 4);
        refuses(fullRoot(6, 0), 1, 'x', 1);
        expect.same("with one", fullRoot(6, 1).make(1, "x", 1), 4);
    }

    /** A consistent disk whose root has so many full blocks, with entries of file 3, that leaves so many free before 62. */
    private static Bench fullRoot(int count, int free) {
        Bench bench = Bench.formatted();
        bench.bigNode(1, 2, count * 64, 16);
        bench.directory(2, 62);
        for (int e = 3; e < count * 4; e++) {
            bench.entry(16 + e / 4, e % 4, 3, "e" + e);
        }
        int next = 16 + count + (count > 5 ? 1 : 0);
        bench.bigNode(3, 1, (61 - next - free) * 64, next);
        bench.desk.repair(-1);
        expect.same("free blocks", bench.freeBlocks(), free);
        expect.same("size of the root", bench.desk.inode(1, 2), count * 64);
        return bench;
    }

    private static void blockIsTakenFirst() {
        expect.sentence("or the entry can't be put (its block being taken first).");
        refuses(Bench.nearlyFull(1), 1, 'x', 2);
        Bench bench = Bench.nearlyFull(2);
        expect.same("two blocks for both", bench.make(1, "x", 2), 4);
        expect.same("the directory's is the first one", bench.pointer(4, 0), 61);
        expect.same("the entry's the next one", bench.entryAt(62, 0, "x"), 4);
        expect.same("free blocks", bench.freeBlocks(), 0);
        expect.same("check()", bench.desk.check(), 0);
        refuses(fullRoot(5, 2), 1, 'x', 2);
        bench = fullRoot(5, 3);
        expect.same("three blocks", bench.make(1, "x", 2), 4);
        expect.same("the directory's", bench.pointer(4, 0), 59);
        expect.same("the entry's", bench.entryAt(60, 0, "x"), 4);
        expect.same("the indirect one", bench.indirect(1), 61);
        expect.same("it tells", bench.desk.peek(61 * 64), 60);
        expect.yes("and nothing else", bench.isBlank(61 * 64 + 1, 63));
        expect.same("check()", bench.desk.check(), 0);
    }
}
