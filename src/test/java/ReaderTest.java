/** Promises 9 (inode), 10 (read), 11 (find), on disks that no repair has seen. */
public final class ReaderTest {
    private static final Expect expect = new Expect();

    public static void main(String[] args) {
        inodeTellsWhatLies();
        inodeRefuses();
        readFollowsPointers();
        readWithoutAnInode();
        readWithinTheSize();
        readUpToBlock45();
        readByPointersInRange();
        findFirstFromTheThirdPlaceOn();
        findWithinTheSize();
        findNamesOfUpToEightBytes();
        findByLengthAndBytes();
        findPassesOver();
        findUpToBlock45();
        findRefuses();
        expect.end();
    }

    private static void inodeTellsWhatLies() {
        expect.sentence("What is told next is asked of any disk, consistent or not, as far as inodes lie in it");
        Bench bench = new Bench();
        bench.bytes(Bench.inodePlace(0), 7, 8, 9, 10);
        bench.bytes(Bench.inodePlace(31), 255, 254, 255, 253);
        expect.same("kind of inode 0", bench.desk.inode(0, 0), 7);
        expect.same("links of inode 0", bench.desk.inode(0, 1), 8);
        expect.same("size of inode 0", bench.desk.inode(0, 2), 9 * 256 + 10);
        expect.same("kind of inode 31", bench.desk.inode(31, 0), 255);
        expect.same("links of inode 31", bench.desk.inode(31, 1), 254);
        expect.same("size of inode 31", bench.desk.inode(31, 2), 255 * 256 + 253);
        for (int what = 0; what < 3; what++) {
            expect.same("inode(5, " + what + "), a free one", bench.desk.inode(5, what), 0);
        }
    }

    private static void inodeRefuses() {
        expect.sentence("kind, links, size of an inode (what = 0, 1, 2). NONE when there is none such, or for others.");
        Bench bench = new Bench();
        bench.fill(0, 4096, 1);
        for (int i : new int[] {-1, -2, 32, 33, 256, Integer.MIN_VALUE, Integer.MAX_VALUE, 1 << 28, 1 << 28 | 1}) {
            for (int what = 0; what < 3; what++) {
                expect.same("inode(" + i + ", " + what + ")", bench.desk.inode(i, what), -1);
            }
        }
        for (int what : new int[] {-1, 3, 4, Integer.MIN_VALUE, Integer.MAX_VALUE}) {
            for (int i : new int[] {0, 31, 32}) {
                expect.same("inode(" + i + ", " + what + ")", bench.desk.inode(i, what), -1);
            }
        }
    }

    /** Inode 4, neither sealed nor of a kind, of 65535 bytes: pointers 16, 15, 63, 62, 16 and an indirect one, 20. */
    private static Bench big() {
        Bench bench = new Bench();
        bench.bytes(Bench.inodePlace(4), 0, 0, 255, 255, 16, 15, 63, 62, 16, 20);
        bench.bytes(16 * 64, 1, 2);
        bench.desk.poke(16 * 64 + 63, 3);
        bench.desk.poke(62 * 64 + 63, 4);
        bench.bytes(20 * 64, 62, 0, 16, 15, 63, 255);
        bench.desk.poke(20 * 64 + 40, 16);
        bench.desk.poke(20 * 64 + 41, 16);
        return bench;
    }

    private static void readFollowsPointers() {
        expect.sentence("Byte k of an inode's contents, read by its pointers.");
        FsckDesk desk = big().desk;
        expect.same("first byte", desk.read(4, 0), 1);
        expect.same("second byte", desk.read(4, 1), 2);
        expect.same("last byte of the first block", desk.read(4, 63), 3);
        expect.same("last byte of the fourth block", desk.read(4, 4 * 64 - 1), 4);
        expect.same("fifth block", desk.read(4, 4 * 64), 1);
        expect.same("last byte of the fifth block", desk.read(4, 5 * 64 - 1), 3);
        expect.same("first byte of the sixth block, by the indirect one", desk.read(4, 5 * 64), 0);
        expect.same("last byte of it", desk.read(4, 6 * 64 - 1), 4);
        expect.same("eighth block", desk.read(4, 7 * 64 + 1), 2);
    }

    private static void readWithoutAnInode() {
        expect.sentence("NONE when there is no such inode");
        Bench bench = new Bench();
        bench.fill(0, 4096, 16);
        for (int i : new int[] {-1, -32, 32, 33, Integer.MIN_VALUE, Integer.MAX_VALUE, 1 << 28, 1 << 28 | 4}) {
            expect.same("read(" + i + ", 0)", bench.desk.read(i, 0), -1);
        }
        expect.same("read(0, 0)", bench.desk.read(0, 0), 16);
        expect.same("read(31, 0)", bench.desk.read(31, 0), 16);
    }

    private static void readWithinTheSize() {
        expect.sentence("or k is not 0 .. its size less 1");
        for (int size : new int[] {0, 1, 2, 63, 64, 255, 256, 320, 321}) {
            Bench bench = big();
            bench.bytes(Bench.inodePlace(4) + 2, size / 256, size % 256, 16, 16, 16, 16, 16);
            expect.same("the last byte of " + size, bench.desk.read(4, size - 1) >= 0 ? 1 : 0, size > 0 ? 1 : 0);
            for (int k = size; k < 384; k++) {
                expect.same("byte " + k + " behind " + size, bench.desk.read(4, k), -1);
            }
            for (int k : new int[] {-1, -64, Integer.MIN_VALUE, Integer.MAX_VALUE}) {
                expect.same("read(4, " + k + ") of " + size, bench.desk.read(4, k), -1);
            }
        }
        FsckDesk desk = big().desk;
        for (int k : new int[] {-1, 65535, 65536, 131072}) {
            expect.same("read(4, " + k + ") of 65535", desk.read(4, k), -1);
        }
    }

    private static void readUpToBlock45() {
        expect.sentence("or k / 64 is above 45");
        Bench bench = big();
        expect.same("first byte of block 45", bench.desk.read(4, 2880), 1);
        expect.same("last byte of block 45", bench.desk.read(4, 2943), 3);
        // the rest of the indirect block, and what lies behind it, would tell blocks, too
        bench.fill(20 * 64 + 41, 2048, 16);
        for (int k = 2944; k < 65535; k += 64) {
            expect.same("block " + k / 64, bench.desk.read(4, k), -1);
        }
        expect.same("the last byte", bench.desk.read(4, 65534), -1);
    }

    private static void readByPointersInRange() {
        expect.sentence("or a pointer on the way is not 16 .. 62.");
        Bench bench = big();
        expect.same("a pointer of 15", bench.desk.read(4, 64), -1);
        expect.same("a pointer of 16", bench.desk.read(4, 0), 1);
        expect.same("a pointer of 62", bench.desk.read(4, 255), 4);
        expect.same("a pointer of 63", bench.desk.read(4, 128), -1);
        expect.same("62 told by the indirect block", bench.desk.read(4, 383), 4);
        expect.same("0 told by it", bench.desk.read(4, 384), -1);
        expect.same("16 told by it", bench.desk.read(4, 448), 1);
        expect.same("15 told by it", bench.desk.read(4, 512), -1);
        expect.same("63 told by it", bench.desk.read(4, 576), -1);
        expect.same("255 told by it", bench.desk.read(4, 640), -1);
        for (int indirect : new int[] {0, 15, 16, 62, 63, 64, 255}) {
            bench = big();
            bench.desk.poke(Bench.inodePlace(4) + 9, indirect);
            if (indirect < 64) {
                bench.desk.poke(indirect * 64 + 1, 62);
            }
            boolean good = indirect == 16 || indirect == 62;
            expect.same("an indirect pointer of " + indirect, bench.desk.read(4, 447), good ? 4 : -1);
            expect.same("the fifth block needs none", bench.desk.read(4, 319), 3);
        }
    }

    /** Inode 6, of no kind that there is, has blocks 30 and 31. */
    private static Bench odd(int size) {
        Bench bench = new Bench();
        bench.bytes(Bench.inodePlace(6), 9, 0, size / 256, size % 256, 30, 31);
        bench.entry(30, 0, 3, "a");
        bench.entry(30, 1, 4, "b");
        bench.entry(30, 2, 5, "abcdefgh");
        bench.entry(30, 3, 0, "a");
        bench.entry(31, 0, 77, "c");
        bench.entry(31, 1, 255, "a");
        bench.entry(31, 2, 9, "z");
        return bench;
    }

    private static void findFirstFromTheThirdPlaceOn() {
        expect.sentence("The inode of the first entry with a name (..) from the third place on");
        Bench bench = odd(128);
        expect.same("the first place is not looked at: one of inode 0 comes", bench.find(6, "a"), 0);
        expect.same("the second place is not looked at", bench.find(6, "b"), -1);
        expect.same("the third place is", bench.find(6, "abcdefgh"), 5);
        expect.same("an inode that there is not", bench.find(6, "c"), 77);
        bench.entry(30, 3, 0, "");
        expect.same("of inode 255", bench.find(6, "a"), 255);
        bench = Bench.formatted();
        expect.same("in a formatted root", bench.desk.find(1, '.'), -1);
        expect.same("in a formatted root", bench.desk.find(1, 0x2e2e), -1);
    }

    private static void findWithinTheSize() {
        expect.sentence("in inode i read as a directory of size / 16 entries, rounded down");
        expect.same("size 111", odd(111).find(6, "z"), -1);
        expect.same("size 112", odd(112).find(6, "z"), 9);
        expect.same("size 47", odd(47).find(6, "abcdefgh"), -1);
        expect.same("size 48", odd(48).find(6, "abcdefgh"), 5);
        expect.same("size 0", odd(0).find(6, "a"), -1);
        expect.same("size 15", odd(15).find(6, "a"), -1);
        expect.same("size 16", odd(16).find(6, "a"), -1);
        expect.same("size 32", odd(32).find(6, "a"), -1);
        expect.same("size 64", odd(64).find(6, "a"), 0);
    }

    private static void findNamesOfUpToEightBytes() {
        expect.sentence("(its eight bytes or fewer, from the first one that is not 0 on, highest first)");
        for (int length = 1; length <= 8; length++) {
            Bench bench = odd(128);
            String name = "\u00ff\u0001\u0080bcdef".substring(8 - length);
            bench.entry(31, 3, 20 + length, name);
            expect.same(length + " bytes", bench.find(6, name), 20 + length);
        }
        Bench bench = odd(128);
        bench.entry(31, 3, 20, "ab");
        expect.same("highest first", bench.desk.find(6, 0x6162), 20);
        expect.same("and not last", bench.desk.find(6, 0x6261), -1);
        bench.bytes(31 * 64 + 48, 10, 3, 'p', 0, 'q');
        expect.same("a byte 0 in a name", bench.desk.find(6, 0x700071L), 10);
        bench.bytes(31 * 64 + 48, 11, 8, 128, 0, 0, 0, 0, 0, 0, 0);
        expect.same("the least of all longs", bench.desk.find(6, Long.MIN_VALUE), 11);
        bench.bytes(31 * 64 + 48, 12, 1, 255);
        expect.same("one byte of 255", bench.desk.find(6, 255), 12);
        expect.same("eight bytes of 255", bench.desk.find(6, -1), -1);
    }

    private static void findByLengthAndBytes() {
        expect.sentence("its length must be that of the name, and that many bytes behind it the name's; what is behind these is not looked at");
        Bench bench = odd(128);
        expect.same("a part of a name", bench.find(6, "abcdefg"), -1);
        bench.bytes(31 * 64 + 48, 13, 3, 'x', 'y', 'z', 'w', 1);
        expect.same("bytes behind a name", bench.find(6, "xyz"), 13);
        expect.same("a shorter one", bench.find(6, "xy"), -1);
        expect.same("a longer one", bench.find(6, "xyzw"), -1);
        expect.same("another last byte", bench.find(6, "xyy"), -1);
        expect.same("another first byte", bench.find(6, "yyz"), -1);
        bench.desk.poke(31 * 64 + 49, 0);
        expect.same("a length of 0", bench.find(6, "xyz"), -1);
        bench.desk.poke(31 * 64 + 49, 255);
        expect.same("a length of 255", bench.find(6, "xyz"), -1);
    }

    private static void findPassesOver() {
        expect.sentence("entries that read() would not tell are passed over");
        for (int block : new int[] {0, 15, 63, 64, 255}) {
            Bench bench = new Bench();
            bench.bytes(Bench.inodePlace(6), 1, 0, 0, 192, 30, block, 31);
            if (block < 64) {
                bench.entry(block, 0, 8, "x");
            }
            bench.entry(31, 0, 9, "x");
            expect.same("behind a pointer of " + block, bench.find(6, "x"), 9);
        }
        Bench bench = new Bench();
        bench.bytes(Bench.inodePlace(6), 1, 0, 1, 192, 0, 0, 0, 0, 0, 40);
        bench.bytes(40 * 64, 63, 31);
        bench.entry(63, 0, 8, "x");
        bench.entry(31, 0, 9, "x");
        expect.same("behind such a block that is told", bench.find(6, "x"), 9);
        bench.desk.poke(Bench.inodePlace(6) + 9, 63);
        expect.same("with an indirect pointer of 63", bench.find(6, "x"), -1);
    }

    private static void findUpToBlock45() {
        expect.sentence("entries that read() would not tell are passed over [k / 64 above 45]");
        Bench bench = new Bench();
        bench.bytes(Bench.inodePlace(7), 2, 0, 255, 255, 0, 0, 0, 0, 0, 40);
        bench.desk.poke(40 * 64 + 40, 31);
        bench.fill(40 * 64 + 41, 1024, 32);
        bench.entry(31, 3, 9, "x");
        bench.entry(32, 0, 13, "w");
        expect.same("in block 45", bench.find(7, "x"), 9);
        expect.same("in block 46", bench.find(7, "w"), -1);
    }

    private static void findRefuses() {
        expect.sentence("NONE when there is none, or name is 0.");
        Bench bench = odd(128);
        bench.entry(31, 3, 9, "");
        expect.same("name 0", bench.desk.find(6, 0), -1);
        expect.same("a name that is not there", bench.find(6, "nope"), -1);
        for (int i : new int[] {-1, 0, 5, 31, 32, 38, Integer.MIN_VALUE, Integer.MAX_VALUE, 1 << 28 | 6}) {
            expect.same("find in " + i, bench.find(i, "a"), -1);
        }
    }
}
