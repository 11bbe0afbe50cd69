import java.util.Arrays;

/** Promises 12 (make), 13 (append), 14 (link), 15 (unlink). */
public final class WriterTest {
    private static final Expect expect = new Expect();

    public static void main(String[] args) {
        makeFilesAndDirectories();
        makeRefuses();
        makeRunsOutOfBlocks();
        makeRunsOutOfInodes();
        makeTakesItsOwnBlockFirst();
        appendBytes();
        appendRefuses();
        appendRunsOutOfBlocks();
        linkFiles();
        linkRefuses();
        unlinkFiles();
        unlinkDirectories();
        unlinkRefuses();
        inconsistentDisksAreLeftAlone();
        expect.end();
    }

    private static void consistent(String what, Bench bench) {
        expect.same("check() behind " + what, bench.desk.check(), 0);
    }

    private static void makeFilesAndDirectories() {
        Bench bench = Bench.formatted();
        for (int k = 0; k < 64; k++) {
            bench.desk.poke(18 * 64 + k, 9);
        }
        expect.same("make a file", bench.make(1, "a", 1), 3);
        consistent("make", bench);
        expect.same("its entry", bench.entryAt(16, 3, "a"), 3);
        expect.same("kind", bench.desk.inode(3, 0), 1);
        expect.same("links", bench.desk.inode(3, 1), 1);
        expect.same("size", bench.desk.inode(3, 2), 0);
        expect.same("no block taken", bench.desk.peek(5), 45);
        expect.same("free inodes", bench.desk.peek(7), 28);
        expect.same("make a directory", bench.make(1, "eightlng", 2), 4);
        consistent("make", bench);
        expect.same("its block is the first free one", bench.desk.peek(Bench.inodePlace(4) + 4), 18);
        expect.same("its first entry", bench.entryAt(18, 0, "."), 4);
        expect.same("its second one", bench.entryAt(18, 1, ".."), 1);
        expect.yes("no others", bench.isFreeEntry(18, 2) && bench.isFreeEntry(18, 3));
        expect.same("the root's next block", bench.desk.peek(533), 19);
        expect.same("with its entry", bench.entryAt(19, 0, "eightlng"), 4);
        expect.same("links of the root", bench.desk.inode(1, 1), 4);
        expect.same("in the new directory", bench.make(4, "a", 2), 5);
        expect.same("its second entry", bench.entryAt(20, 1, ".."), 4);
        expect.same("in lost and found", bench.make(2, "a", 1), 6);
        expect.same("its entry", bench.entryAt(17, 2, "a"), 6);
        expect.same("a byte of 255", bench.desk.make(4, 0xff01020304050607L, 1), 7);
        expect.same("is found", bench.desk.find(4, 0xff01020304050607L), 7);
        expect.same("three dots", bench.make(4, "...", 1), 8);
        consistent("make", bench);
    }

    private static void refusesMake(Bench bench, int dir, long name, int kind) {
        int[] before = bench.snapshot();
        expect.same("make(" + dir + ", " + name + ", " + kind + ")", bench.desk.make(dir, name, kind), -1);
        expect.yes("nothing changed", Arrays.equals(before, bench.snapshot()));
    }

    private static void makeRefuses() {
        Bench bench = Bench.formatted();
        bench.make(1, "f", 1);
        bench.make(1, "d", 2);
        for (int dir : new int[] {-1, 0, 3, 5, 31, 32, 33, 34, 65, Integer.MIN_VALUE, Integer.MAX_VALUE, 1 << 28 | 1}) {
            refusesMake(bench, dir, 'x', 1);
        }
        long[] names = {0, '.', 0x2e2e, '/', 0x612f, 0x2f61, 0x6100, 0x610062, 0x6162636465666700L, 'f', 'd'};
        for (long name : names) {
            refusesMake(bench, 1, name, 1);
            refusesMake(bench, 1, name, 2);
        }
        for (int kind : new int[] {0, 3, -1, Integer.MIN_VALUE, Integer.MAX_VALUE}) {
            refusesMake(bench, 1, 'x', kind);
        }
        expect.same("the same name in another directory", bench.make(4, "f", 1), 5);
    }

    /** A formatted disk with a file, inode 3, that leaves so many blocks free. */
    private static Bench nearlyFull(int free) {
        Bench bench = Bench.formatted();
        bench.bigNode(3, 1, (44 - free) * 64, 18);
        bench.entry(16, 3, 3, "big");
        bench.desk.repair(-1);
        expect.same("free blocks", bench.desk.peek(5), free);
        return bench;
    }

    private static void makeRunsOutOfBlocks() {
        Bench bench = nearlyFull(0);
        refusesMake(bench, 1, 'x', 1);
        refusesMake(bench, 2, 'x', 2);
        expect.same("an entry where there is room", bench.make(2, "x", 1), 4);
        bench = nearlyFull(1);
        refusesMake(bench, 1, 'x', 2);
        expect.same("the last block for an entry", bench.make(1, "x", 1), 4);
        bench = nearlyFull(1);
        expect.same("the last block for a directory", bench.make(2, "x", 2), 4);
        refusesMake(bench, 1, 'y', 1);
        bench = nearlyFull(2);
        expect.same("two blocks for both", bench.make(1, "x", 2), 4);
        consistent("make", bench);
        expect.same("free blocks", bench.desk.peek(5), 0);
    }

    private static void makeRunsOutOfInodes() {
        Bench bench = Bench.formatted();
        for (int i = 3; i < 32; i++) {
            expect.same("make", bench.desk.make(1, 'A' + i, 1), i);
        }
        refusesMake(bench, 1, 'z', 1);
        expect.yes("one is freed", bench.desk.unlink(1, 'A' + 9));
        expect.same("and taken", bench.make(2, "z", 1), 9);
    }

    private static void makeTakesItsOwnBlockFirst() {
        Bench bench = Bench.formatted();
        // 17 entries beside lost+found fill the root's five blocks
        bench.make(1, "f", 1);
        for (int k = 1; k < 17; k++) {
            expect.yes("link", bench.desk.link(1, 'A' + k, 3));
        }
        expect.same("five blocks", bench.desk.inode(1, 2), 320);
        expect.same("make a directory", bench.make(1, "d", 2), 4);
        expect.same("its block", bench.desk.peek(Bench.inodePlace(4) + 4), 22);
        expect.same("its entry lies in the next", bench.entryAt(23, 0, "d"), 4);
        expect.same("the indirect block comes last", bench.desk.peek(Bench.inodePlace(1) + 9), 24);
        expect.same("it tells", bench.desk.peek(24 * 64), 23);
        consistent("make", bench);
    }

    private static void appendBytes() {
        Bench bench = Bench.formatted();
        bench.make(1, "a", 1);
        for (int p = 18 * 64; p < 26 * 64; p++) {
            bench.desk.poke(p, 200);
        }
        for (int k = 0; k < 385; k++) {
            expect.yes("append", bench.desk.append(3, k * 7 % 256));
            expect.same("size", bench.desk.inode(3, 2), k + 1);
        }
        consistent("append", bench);
        for (int k = 0; k < 385; k++) {
            expect.same("read(3, " + k + ")", bench.desk.read(3, k), k * 7 % 256);
        }
        for (int k = 0; k < 5; k++) {
            expect.same("pointer " + k, bench.desk.peek(Bench.inodePlace(3) + 4 + k), 18 + k);
        }
        expect.same("indirect one", bench.desk.peek(Bench.inodePlace(3) + 9), 24);
        expect.same("it tells the sixth block", bench.desk.peek(24 * 64), 23);
        expect.same("and the seventh", bench.desk.peek(24 * 64 + 1), 25);
        expect.yes("and nothing else", bench.isBlank(24 * 64 + 2, 62));
        expect.yes("a new block is all 0 but for a byte", bench.isBlank(25 * 64 + 1, 63));
        expect.same("free blocks", bench.desk.peek(5), 37);
        expect.same("behind the end", bench.desk.read(3, 385), -1);
    }

    private static void refusesAppend(Bench bench, int i, int b) {
        int[] before = bench.snapshot();
        expect.no("append(" + i + ", " + b + ")", bench.desk.append(i, b));
        expect.yes("nothing changed", Arrays.equals(before, bench.snapshot()));
    }

    private static void appendRefuses() {
        Bench bench = Bench.formatted();
        bench.make(1, "f", 1);
        bench.make(1, "d", 2);
        for (int i : new int[] {-1, 0, 1, 2, 4, 5, 31, 32, 35, Integer.MIN_VALUE, Integer.MAX_VALUE, 1 << 28 | 3}) {
            refusesAppend(bench, i, 1);
        }
        for (int b : new int[] {-1, 256, Integer.MIN_VALUE, Integer.MAX_VALUE}) {
            refusesAppend(bench, 3, b);
        }
        expect.yes("a byte of 0", bench.desk.append(3, 0));
        expect.yes("a byte of 255", bench.desk.append(3, 255));
        expect.same("is read", bench.desk.read(3, 1), 255);
    }

    private static void appendRunsOutOfBlocks() {
        Bench bench = nearlyFull(0);
        refusesAppend(bench, 3, 1);
        bench.make(2, "x", 1);
        refusesAppend(bench, 4, 1);
        bench = nearlyFull(1);
        expect.yes("the last block", bench.desk.append(3, 1));
        consistent("append", bench);
        for (int k = 1; k < 64; k++) {
            expect.yes("append", bench.desk.append(3, k));
        }
        refusesAppend(bench, 3, 1);
        // a file of five blocks needs two more, of which there is but one
        bench = Bench.formatted();
        bench.node(3, 1, 320, 18, 19, 20, 21, 22);
        bench.bigNode(4, 1, 38 * 64, 23);
        bench.entry(16, 3, 3, "five");
        bench.entry(17, 2, 4, "big");
        bench.desk.repair(-1);
        expect.same("free blocks", bench.desk.peek(5), 1);
        refusesAppend(bench, 3, 1);
    }

    private static void linkFiles() {
        Bench bench = Bench.formatted();
        bench.make(1, "f", 1);
        bench.make(1, "d", 2);
        expect.yes("link in the same directory", bench.link(1, "g", 3));
        expect.yes("link in another one", bench.link(4, "f", 3));
        expect.same("links", bench.desk.inode(3, 1), 3);
        expect.same("find g", bench.find(1, "g"), 3);
        expect.same("find f", bench.find(4, "f"), 3);
        consistent("link", bench);
        expect.yes("link", bench.link(4, "g", 3));
        expect.yes("link for a new block", bench.link(4, "h", 3));
        expect.same("size", bench.desk.inode(4, 2), 128);
        consistent("link", bench);
    }

    private static void refusesLink(Bench bench, int dir, long name, int i) {
        int[] before = bench.snapshot();
        expect.no("link(" + dir + ", " + name + ", " + i + ")", bench.desk.link(dir, name, i));
        expect.yes("nothing changed", Arrays.equals(before, bench.snapshot()));
    }

    private static void linkRefuses() {
        Bench bench = Bench.formatted();
        bench.make(1, "f", 1);
        bench.make(1, "d", 2);
        for (int i : new int[] {-1, 0, 1, 2, 4, 5, 31, 32, 35, Integer.MIN_VALUE, Integer.MAX_VALUE, 1 << 28 | 3}) {
            refusesLink(bench, 1, 'x', i);
        }
        for (int dir : new int[] {-1, 0, 3, 5, 32, 33, Integer.MIN_VALUE, Integer.MAX_VALUE}) {
            refusesLink(bench, dir, 'x', 3);
        }
        for (long name : new long[] {0, '.', 0x2e2e, '/', 0x612f, 0x6100, 'f', 'd'}) {
            refusesLink(bench, 1, name, 3);
        }
        refusesLink(nearlyFull(0), 1, 'x', 3);
        expect.yes("link where there is room", nearlyFull(0).link(2, "x", 3));
        expect.yes("link with the last block", nearlyFull(1).link(1, "x", 3));
    }

    private static void unlinkFiles() {
        Bench bench = Bench.formatted();
        bench.make(1, "a", 1);
        bench.make(1, "b", 1);
        bench.link(2, "a", 3);
        bench.desk.append(3, 66);
        expect.yes("unlink one of two", bench.unlink(1, "a"));
        consistent("unlink", bench);
        expect.yes("its entry is free", bench.isFreeEntry(16, 3));
        expect.same("links", bench.desk.inode(3, 1), 1);
        expect.same("the byte is still read", bench.desk.read(3, 0), 66);
        int block = bench.desk.peek(Bench.inodePlace(3) + 4);
        expect.yes("unlink the last one", bench.unlink(2, "a"));
        consistent("unlink", bench);
        expect.yes("the inode is all 0", bench.isBlank(Bench.inodePlace(3), 16));
        expect.same("its byte stays", bench.desk.peek(block * 64), 66);
        expect.same("the block is free", bench.desk.peek(448 + block / 8) >> 7 - block % 8 & 1, 0);
        expect.same("the directory keeps its blocks", bench.desk.inode(1, 2), 128);
        expect.same("the first free place is taken again", bench.make(1, "c", 1), 3);
        expect.same("it is there", bench.entryAt(16, 3, "c"), 3);
    }

    private static void unlinkDirectories() {
        Bench bench = Bench.formatted();
        bench.make(1, "d", 2);
        bench.make(3, "e", 2);
        bench.make(3, "f", 1);
        int[] before = bench.snapshot();
        expect.no("unlink a directory that is not empty", bench.unlink(1, "d"));
        expect.yes("nothing changed", Arrays.equals(before, bench.snapshot()));
        expect.yes("unlink the file in it", bench.unlink(3, "f"));
        expect.no("unlink with a directory in it", bench.unlink(1, "d"));
        expect.yes("unlink the directory in it", bench.unlink(3, "e"));
        expect.same("links", bench.desk.inode(3, 1), 2);
        expect.yes("unlink it", bench.unlink(1, "d"));
        consistent("unlink", bench);
        expect.same("links of the root", bench.desk.inode(1, 1), 3);
        expect.same("its bytes stay", bench.entryAt(18, 0, "."), 3);
        expect.same("free blocks", bench.desk.peek(5), 45);
        expect.same("free inodes", bench.desk.peek(7), 29);
        expect.same("a directory again", bench.make(1, "d", 2), 3);
        expect.yes("with no entries", bench.isFreeEntry(18, 2) && bench.isFreeEntry(18, 3));
        // nothing but an entry in its second block
        bench.make(3, "g", 1);
        bench.link(3, "h", 4);
        bench.link(3, "i", 4);
        bench.unlink(3, "g");
        bench.unlink(3, "h");
        expect.no("unlink with an entry far behind", bench.unlink(1, "d"));
    }

    private static void unlinkRefuses() {
        Bench bench = Bench.formatted();
        bench.make(1, "f", 1);
        bench.make(1, "d", 2);
        int[] before = bench.snapshot();
        for (long name : new long[] {0, '.', 0x2e2e, 'x', 0x6600, 0x6c6f73742b666f75L}) {
            expect.no("unlink " + name + " in the root", bench.desk.unlink(1, name));
            expect.no("unlink " + name + " in an empty directory", bench.desk.unlink(4, name));
        }
        for (int dir : new int[] {-1, 0, 2, 3, 5, 32, 33, Integer.MIN_VALUE, Integer.MAX_VALUE}) {
            expect.no("unlink in " + dir, bench.unlink(dir, "f"));
        }
        expect.yes("nothing changed", Arrays.equals(before, bench.snapshot()));
    }

    private static void inconsistentDisksAreLeftAlone() {
        Bench bench = Bench.formatted();
        bench.make(1, "f", 1);
        bench.make(1, "d", 2);
        // a byte of the maps, of the journal, and of each super
        int[][] spoilt = {{511, 1}, {64, 1}, {4090, 1}, {0, 0}};
        for (int[] each : spoilt) {
            bench.desk.poke(each[0], each[1]);
            int[] before = bench.snapshot();
            expect.same("make", bench.make(1, "x", 1), -1);
            expect.no("append", bench.desk.append(3, 1));
            expect.no("link", bench.link(1, "x", 3));
            expect.no("unlink", bench.unlink(1, "f"));
            expect.yes("nothing changed", Arrays.equals(before, bench.snapshot()));
            bench.desk.repair(-1);
        }
        bench.desk.poke(300, 1);
        expect.same("blocks 2 to 6 may hold anything", bench.make(1, "x", 1), 5);
    }
}
