/** Promises 9 (inode), 10 (read), 11 (find), on disks that no repair has seen. */
public final class ReaderTest {
    private static final Expect expect = new Expect();

    public static void main(String[] args) {
        inodeTellsWhatLies();
        readFollowsPointers();
        readRefuses();
        findLooksAtNames();
        findPassesOver();
        expect.end();
    }

    private static void inodeTellsWhatLies() {
        Bench bench = new Bench();
        bench.bytes(512, 7, 8, 9, 10);
        bench.bytes(512 + 31 * 16, 255, 254, 255, 253);
        FsckDesk desk = bench.desk;
        expect.same("kind of inode 0", desk.inode(0, 0), 7);
        expect.same("links of inode 0", desk.inode(0, 1), 8);
        expect.same("size of inode 0", desk.inode(0, 2), 9 * 256 + 10);
        expect.same("kind of inode 31", desk.inode(31, 0), 255);
        expect.same("links of inode 31", desk.inode(31, 1), 254);
        expect.same("size of inode 31", desk.inode(31, 2), 255 * 256 + 253);
        expect.same("kind of inode 5", desk.inode(5, 0), 0);
        for (int i : new int[] {-1, 32, 33, Integer.MIN_VALUE, Integer.MAX_VALUE, 1 << 28}) {
            expect.same("inode(" + i + ", 0)", desk.inode(i, 0), -1);
        }
        for (int what : new int[] {-1, 3, Integer.MIN_VALUE, Integer.MAX_VALUE}) {
            expect.same("inode(31, " + what + ")", desk.inode(31, what), -1);
        }
    }

    /** Inode 4, neither sealed nor of a kind, of 65535 bytes: pointers 16, 15, 63, 62, 16 and an indirect one, 20. */
    private static Bench big() {
        Bench bench = new Bench();
        bench.bytes(512 + 4 * 16, 0, 0, 255, 255, 16, 15, 63, 62, 16, 20);
        bench.bytes(16 * 64, 1, 2);
        bench.desk.poke(16 * 64 + 63, 3);
        bench.desk.poke(62 * 64 + 63, 4);
        bench.bytes(20 * 64, 62, 0, 16);
        bench.desk.poke(20 * 64 + 40, 16);
        bench.desk.poke(20 * 64 + 41, 16);
        return bench;
    }

    private static void readFollowsPointers() {
        FsckDesk desk = big().desk;
        expect.same("first byte", desk.read(4, 0), 1);
        expect.same("second byte", desk.read(4, 1), 2);
        expect.same("last byte of the first block", desk.read(4, 63), 3);
        expect.same("last byte of the fourth block", desk.read(4, 4 * 64 - 1), 4);
        expect.same("fifth block", desk.read(4, 4 * 64), 1);
        expect.same("sixth block, by the indirect one", desk.read(4, 6 * 64 - 1), 4);
        expect.same("eighth block", desk.read(4, 7 * 64 + 1), 2);
        expect.same("block 45", desk.read(4, 45 * 64 + 63), 3);
    }

    private static void readRefuses() {
        Bench bench = big();
        FsckDesk desk = bench.desk;
        expect.same("a pointer of 15", desk.read(4, 64), -1);
        expect.same("a pointer of 63", desk.read(4, 128), -1);
        expect.same("a pointer of 0 in the indirect block", desk.read(4, 6 * 64), -1);
        expect.same("block 46", desk.read(4, 46 * 64), -1);
        expect.same("the last byte", desk.read(4, 65534), -1);
        for (int k : new int[] {-1, 65535, Integer.MIN_VALUE, Integer.MAX_VALUE}) {
            expect.same("read(4, " + k + ")", desk.read(4, k), -1);
        }
        for (int i : new int[] {-1, 32, Integer.MIN_VALUE, Integer.MAX_VALUE}) {
            expect.same("read(" + i + ", 0)", desk.read(i, 0), -1);
        }
        expect.same("an inode without a size", desk.read(5, 0), -1);
        bench.bytes(512 + 4 * 16 + 2, 0, 2);
        expect.same("the last byte of two", desk.read(4, 1), 2);
        expect.same("the byte behind it", desk.read(4, 2), -1);
        bench.bytes(512 + 4 * 16 + 2, 2, 0);
        bench.desk.poke(512 + 4 * 16 + 9, 63);
        expect.same("an indirect pointer of 63", desk.read(4, 320), -1);
        expect.same("the fifth block needs none", desk.read(4, 319), 3);
    }

    private static void findLooksAtNames() {
        Bench bench = new Bench();
        bench.bytes(512 + 16 * 6, 9, 0, 0, 64 + 47, 30, 31);
        bench.entry(30, 0, 3, "a");
        bench.entry(30, 1, 4, "b");
        bench.entry(30, 2, 5, "abcdefgh");
        bench.entry(30, 3, 0, "a");
        bench.entry(31, 0, 77, "c");
        bench.entry(31, 1, 255, "a");
        bench.entry(31, 2, 9, "z");
        expect.same("eight bytes", bench.find(6, "abcdefgh"), 5);
        expect.same("the first one from the third place on, of inode 0", bench.find(6, "a"), 0);
        expect.same("the second place is not looked at", bench.find(6, "b"), -1);
        expect.same("an inode that there is not", bench.find(6, "c"), 77);
        expect.same("behind the size, rounded down", bench.find(6, "z"), -1);
        expect.same("a part of a name", bench.find(6, "abcdefg"), -1);
        expect.same("name 0", bench.desk.find(6, 0), -1);
        for (int i : new int[] {-1, 0, 5, 32, Integer.MIN_VALUE, Integer.MAX_VALUE}) {
            expect.same("find in " + i, bench.find(i, "a"), -1);
        }
        bench.desk.poke(512 + 16 * 6 + 3, 64 + 48);
        expect.same("one byte of size more", bench.find(6, "z"), 9);
    }

    private static void findPassesOver() {
        Bench bench = new Bench();
        bench.bytes(512 + 16 * 6, 1, 0, 1, 0, 30, 0, 63, 31);
        bench.entry(63, 0, 8, "x");
        bench.entry(31, 0, 9, "x");
        bench.desk.poke(31 * 64 + 3, 99);
        expect.same("a block that can't be read, and bytes behind a name", bench.find(6, "x"), 9);
        bench.bytes(31 * 64 + 16, 10, 3, 'p', 0, 'q');
        expect.same("a byte 0 in a name", bench.desk.find(6, 0x700071L), 10);
        bench.bytes(31 * 64 + 32, 11, 8, 255, 1, 2, 3, 4, 5, 6, 7);
        expect.same("a name with the highest bit", bench.desk.find(6, 0xff01020304050607L), 11);
        bench.bytes(512 + 16 * 7, 2, 0, 255, 255, 0, 0, 0, 0, 0, 40);
        bench.desk.poke(40 * 64 + 40, 31);
        bench.desk.poke(40 * 64 + 41, 32);
        bench.entry(32, 0, 13, "w");
        expect.same("in block 45", bench.find(7, "x"), 9);
        expect.same("in block 46", bench.find(7, "w"), -1);
    }
}
