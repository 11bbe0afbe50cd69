/** Promises 14 (link) and 15 (unlink). */
public final class LinkTest {
    private static final Expect expect = new Expect();

    public static void main(String[] args) {
        oneEntryMore();
        linkWithoutFreeInodes();
        linkIsRefusedAsMakeIs();
        linkNames();
        linkWithoutRoom();
        linkNoFile();
        entryGoes();
        fileWithoutEntriesGoes();
        directoryThatIsEmptyGoes();
        blocksAreFree();
        unlinkOnADiskNotConsistent();
        unlinkInNoDirectory();
        unlinkNoEntry();
        unlinkADirectoryNotEmpty();
        expect.end();
    }

    private static void refusesLink(Bench bench, int dir, long name, int i) {
        String what = "link(" + dir + ", " + name + ", " + i + ")";
        int[] before = bench.snapshot();
        expect.no(what, bench.desk.link(dir, name, i));
        expect.unchanged(what, bench, before);
    }

    private static void refusesUnlink(Bench bench, int dir, long name) {
        String what = "unlink(" + dir + ", " + name + ")";
        int[] before = bench.snapshot();
        expect.no(what, bench.desk.unlink(dir, name));
        expect.unchanged(what, bench, before);
    }

    private static void oneEntryMore() {
        expect.sentence("One entry more of a file, likewise.");
        Bench bench = Bench.withFileAndDirectory();
        expect.yes("in the same directory", bench.link(1, "g", 3));
        expect.yes("in another one", bench.link(4, "f", 3));
        expect.same("links", bench.desk.inode(3, 1), 3);
        expect.same("find g", bench.find(1, "g"), 3);
        expect.same("find f", bench.find(4, "f"), 3);
        expect.same("check()", bench.desk.check(), 0);
        expect.yes("for the last place of a block", bench.link(4, "g", 3));
        expect.same("size", bench.desk.inode(4, 2), 64);
        expect.yes("for a new block", bench.link(4, "h", 3));
        expect.same("size", bench.desk.inode(4, 2), 128);
        expect.same("links of 4 stay", bench.desk.inode(4, 1), 2);
        expect.same("check()", bench.desk.check(), 0);
    }

    private static void linkWithoutFreeInodes() {
        expect.sentence("One entry more of a file [no inode is taken]");
        Bench bench = Bench.formatted();
        for (int i = 3; i < 32; i++) {
            bench.desk.make(1, 'A' + i, 1);
        }
        expect.yes("link of the last inode", bench.link(2, "x", 31));
        expect.same("links", bench.desk.inode(31, 1), 2);
        expect.same("check()", bench.desk.check(), 0);
    }

    private static void linkIsRefusedAsMakeIs() {
        expect.sentence("False, changing nothing, as for make() [the disk, the directory]");
        Bench bench = Bench.withFileAndDirectory();
        for (int dir : new int[] {-1, 0, 3, 5, 31, 32, 33, Integer.MIN_VALUE, Integer.MAX_VALUE, 1 << 28 | 1}) {
            refusesLink(bench, dir, 'x', 3);
        }
        for (int[] wrong : Bench.SPOILT) {
            bench.desk.poke(wrong[0], wrong[1]);
            refusesLink(bench, 1, 'x', 3);
            bench.desk.repair(-1);
        }
        bench.bytes(0, 0);
        bench.bytes(4032, 0);
        refusesLink(bench, 1, 'x', 3);
    }

    private static void linkNames() {
        expect.sentence("False, changing nothing, as for make() [the name]");
        Bench bench = Bench.withFileAndDirectory();
        for (long name : new long[] {0, '.', 0x2e2e, '/', 0x612f, 0x2f61, 0x6100, 0x610062, Long.MIN_VALUE, 'f', 'd'}) {
            refusesLink(bench, 1, name, 3);
        }
        expect.yes("three dots", bench.link(1, "...", 3));
        expect.yes("eight of 255", bench.desk.link(1, -1, 3));
        expect.yes("eight bytes of lost+found", bench.link(1, "lost+fou", 3));
        expect.same("links", bench.desk.inode(3, 1), 4);
    }

    private static void linkWithoutRoom() {
        expect.sentence("False, changing nothing, as for make() [the entry can't be put]");
        refusesLink(Bench.nearlyFull(0), 1, 'x', 3);
        expect.yes("where there is room", Bench.nearlyFull(0).link(2, "x", 3));
        Bench bench = Bench.nearlyFull(1);
        expect.yes("with the last block", bench.link(1, "x", 3));
        expect.same("free blocks", bench.freeBlocks(), 0);
        expect.same("check()", bench.desk.check(), 0);
        // five blocks of lost and found have room for 18 entries: the next one needs two blocks
        for (int free = 1; free <= 2; free++) {
            bench = Bench.nearlyFull(free + 4);
            for (int k = 0; k < 18; k++) {
                expect.yes("link " + k, bench.desk.link(2, 'A' + k, 3));
            }
            expect.same("free blocks", bench.freeBlocks(), free);
            if (free == 1) {
                refusesLink(bench, 2, 'x', 3);
            } else {
                expect.yes("with two", bench.link(2, "x", 3));
                expect.same("the indirect one", bench.indirect(2), 62);
                expect.same("check()", bench.desk.check(), 0);
            }
        }
    }

    private static void linkNoFile() {
        expect.sentence("or when i is no file in use.");
        Bench bench = Bench.withFileAndDirectory();
        for (int i : new int[] {-1, 0, 1, 2, 4, 5, 31, 32, 35, Integer.MIN_VALUE, Integer.MAX_VALUE, 1 << 28 | 3}) {
            refusesLink(bench, 1, 'x', i);
        }
    }

    private static void entryGoes() {
        expect.sentence("The entry with a name in a directory goes, on a consistent disk");
        Bench bench = Bench.withFileAndDirectory();
        bench.link(1, "g", 3);
        bench.link(2, "f", 3);
        expect.yes("unlink", bench.unlink(1, "f"));
        expect.yes("its place is free", bench.isFreeEntry(16, 3));
        expect.same("links", bench.desk.inode(3, 1), 2);
        expect.same("the same name elsewhere stays", bench.find(2, "f"), 3);
        expect.same("another name stays", bench.find(1, "g"), 3);
        expect.same("the directory keeps its blocks", bench.desk.inode(1, 2), 128);
        expect.same("check()", bench.desk.check(), 0);
        expect.yes("a name of eight bytes of 255", bench.desk.link(1, -1, 3) && bench.desk.unlink(1, -1));
        expect.same("check()", bench.desk.check(), 0);
    }

    private static void fileWithoutEntriesGoes() {
        expect.sentence("a file without entries (..) is all 0 then");
        Bench bench = Bench.withFileAndDirectory();
        bench.link(4, "f", 3);
        bench.desk.append(3, 66);
        expect.yes("one of two", bench.unlink(1, "f"));
        expect.same("kind", bench.desk.inode(3, 0), 1);
        expect.same("its byte is still read", bench.desk.read(3, 0), 66);
        expect.yes("the last one", bench.unlink(4, "f"));
        expect.yes("all 0", bench.isFreeInode(3));
        expect.same("free inodes", bench.freeInodes(), 28);
        expect.same("check()", bench.desk.check(), 0);
    }

    private static void directoryThatIsEmptyGoes() {
        expect.sentence("or a directory that has none from the third place on, is all 0 then");
        Bench bench = Bench.withFileAndDirectory();
        expect.yes("unlink", bench.unlink(1, "d"));
        expect.yes("all 0", bench.isFreeInode(4));
        expect.same("links of the root", bench.desk.inode(1, 1), 3);
        expect.same("check()", bench.desk.check(), 0);
        bench.make(1, "d", 2);
        for (int k = 0; k < 20; k++) {
            bench.desk.link(4, 'A' + k, 3);
        }
        for (int k = 0; k < 20; k++) {
            bench.desk.unlink(4, 'A' + k);
        }
        expect.same("six blocks without an entry", bench.desk.inode(4, 2), 384);
        expect.yes("unlink", bench.unlink(1, "d"));
        expect.same("all are free, but for the root's two and lost and found's", bench.freeBlocks(), 44);
        expect.same("check()", bench.desk.check(), 0);
    }

    private static void blocksAreFree() {
        expect.sentence("its blocks free (their bytes stay).");
        Bench bench = Bench.formatted();
        bench.make(1, "f", 1);
        for (int k = 0; k < 321; k++) {
            bench.desk.append(3, 66);
        }
        expect.same("free blocks", bench.freeBlocks(), 38);
        bench.unlink(1, "f");
        expect.same("free blocks", bench.freeBlocks(), 45);
        for (int block = 18; block < 25; block++) {
            expect.no("block " + block, bench.isUsedBlock(block));
        }
        expect.same("the last byte of the fifth block", bench.desk.peek(23 * 64 - 1), 66);
        expect.same("the byte of the sixth", bench.desk.peek(23 * 64), 66);
        expect.same("the indirect block", bench.desk.peek(24 * 64), 23);
        bench.make(1, "d", 2);
        bench.unlink(1, "d");
        expect.same("the entries of a directory", bench.entryAt(18, 0, "."), 3);
        expect.same("the entries of a directory", bench.entryAt(18, 1, ".."), 1);
    }

    private static void unlinkOnADiskNotConsistent() {
        expect.sentence("False, changing nothing, when it is not consistent");
        Bench bench = Bench.withFileAndDirectory();
        for (int[] wrong : Bench.SPOILT) {
            bench.desk.poke(wrong[0], wrong[1]);
            refusesUnlink(bench, 1, 'f');
            bench.desk.repair(-1);
        }
        bench.bytes(0, 0);
        bench.bytes(4032, 0);
        refusesUnlink(bench, 1, 'f');
    }

    private static void unlinkInNoDirectory() {
        expect.sentence("or dir is no directory in use");
        Bench bench = Bench.withFileAndDirectory();
        // the file's bytes look like a directory's
        for (int k = 0; k < 64; k++) {
            bench.desk.append(3, k == 32 || k == 33 ? 3 : k == 34 ? 'f' : 0);
        }
        bench.desk.poke(bench.pointer(3, 0) * 64 + 33, 1);
        expect.same("find in a file", bench.find(3, "f"), 3);
        for (int dir : new int[] {-1, 0, 3, 5, 31, 32, 33, Integer.MIN_VALUE, Integer.MAX_VALUE, 1 << 28 | 1}) {
            refusesUnlink(bench, dir, 'f');
        }
        expect.yes("in the root", bench.unlink(1, "f"));
    }

    private static void unlinkNoEntry() {
        expect.sentence("or there is no such entry");
        Bench bench = Bench.withFileAndDirectory();
        for (int dir : new int[] {1, 2, 4}) {
            for (long name : new long[] {0, '.', 0x2e2e, 'x', 0x6600, 0x6666, 0x6c6f73742b666f75L, -1}) {
                refusesUnlink(bench, dir, name);
            }
        }
        refusesUnlink(bench, 2, 'f');
        refusesUnlink(bench, 4, 'd');
        bench.unlink(1, "f");
        refusesUnlink(bench, 1, 'f');
    }

    private static void unlinkADirectoryNotEmpty() {
        expect.sentence("or it is of a directory that is not empty.");
        Bench bench = Bench.formatted();
        bench.make(1, "d", 2);
        bench.make(3, "e", 2);
        bench.make(3, "f", 1);
        refusesUnlink(bench, 1, 'd');
        expect.yes("unlink the directory in it", bench.unlink(3, "e"));
        refusesUnlink(bench, 1, 'd');
        expect.yes("unlink the file in it", bench.unlink(3, "f"));
        expect.yes("unlink it", bench.unlink(1, "d"));
        // nothing but an entry at the last place of its second block
        bench.make(1, "d", 2);
        bench.make(3, "a", 1);
        for (int k = 0; k < 5; k++) {
            bench.desk.link(3, 'b' + k, 4);
        }
        for (int k = 0; k < 5; k++) {
            bench.desk.unlink(3, 'a' + k);
        }
        expect.same("its block", bench.desk.inode(3, 2), 128);
        expect.same("the last place", bench.entryAt(bench.pointer(3, 1), 3, "f"), 4);
        refusesUnlink(bench, 1, 'd');
        bench.unlink(3, "f");
        expect.yes("when that is gone", bench.unlink(1, "d"));
    }
}
