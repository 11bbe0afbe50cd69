/** Promises 7 (check) and 8 (repair): supers, crashes, and the passes 1 to 5. */
public final class RepairTest {
    private static final Expect expect = new Expect();

    public static void main(String[] args) {
        repairNeedsASuper();
        crashesCutWriting();
        soundFiles();
        soundDirectories();
        sharedBlocks();
        fixedDirectoriesAreMade();
        lastInodesMakeRoom();
        lostAndFoundMayStayFree();
        entriesAreTidied();
        sameNamesAreTidied();
        treeIsReachedInOrder();
        lostInodesArePut();
        lostNamesGetMarks();
        lostAndFoundGrows();
        whatCannotBePutGoes();
        linksMapsAndSupersAreSet();
        expect.end();
    }

    private static void repairNeedsASuper() {
        Bench bench = new Bench();
        FsckDesk desk = bench.desk;
        expect.same("check() without a super", desk.check(), -1);
        expect.same("repair(-1) without a super", desk.repair(-1), -1);
        bench.text(0, "SFSK");
        expect.same("a super without its sum", desk.check(), -1);
        desk.poke(40, 100);
        desk.seal(0);
        expect.same("a good super, its 54 bytes not all 0", desk.check(), 6);
        desk.poke(63, desk.peek(63) + 1);
        expect.same("a wrong sum", desk.check(), -1);
        bench.text(63 * 64, "SFSK");
        desk.seal(1);
        expect.same("the last super alone", desk.repair(-1), 6);
        expect.same("both are written", desk.peek(40), 0);
        desk.poke(2, 'T');
        desk.seal(0);
        expect.same("a wrong mark, the last super being good", desk.check(), 1);
        desk.poke(4032, 0);
        desk.seal(1);
        expect.same("two wrong marks", desk.check(), -1);
    }

    private static void crashesCutWriting() {
        for (int crash = 0; crash <= 64; crash++) {
            Bench bench = new Bench();
            bench.text(63 * 64, "SFSK");
            bench.desk.seal(1);
            expect.same("repair(" + crash + ")", bench.desk.repair(crash), Math.min(crash, 6));
            int[] firsts = {0, 448, 528, 1024, 1088};
            for (int k = 0; k < firsts.length; k++) {
                expect.same("written of block " + k, bench.desk.peek(firsts[k]) == 0 ? 0 : 1, crash > k ? 1 : 0);
            }
            expect.same("the rest", bench.desk.check(), 6 - Math.min(crash, 6));
        }
        FsckDesk desk = Bench.formatted().desk;
        desk.poke(448, 0);
        for (int crash : new int[] {-2, 65, Integer.MIN_VALUE, Integer.MAX_VALUE}) {
            expect.same("repair(" + crash + ")", desk.repair(crash), -1);
        }
        expect.same("nothing was written", desk.peek(448), 0);
        expect.same("repair(0)", desk.repair(0), 0);
        expect.same("check()", desk.check(), 1);
        expect.same("repair(64)", desk.repair(64), 1);
    }

    /** Whether inode 5, spoilt at a place of its own 16 bytes and sealed, is still in use after a repair. */
    private static boolean survives(Bench bench, int at, int v) {
        if (at >= 0) {
            bench.desk.poke(Bench.inodePlace(5) + at, v);
            bench.desk.seal(8);
        }
        bench.desk.repair(-1);
        expect.same("check() behind a repair", bench.desk.check(), 0);
        expect.yes("an inode that goes is all 0",
            bench.desk.inode(5, 0) != 0 || bench.isBlank(Bench.inodePlace(5), 16));
        return bench.desk.inode(5, 0) != 0;
    }

    private static Bench withFile(int size, int... blocks) {
        Bench bench = Bench.formatted();
        bench.node(5, 1, size, blocks);
        return bench;
    }

    private static Bench withBigFile(int size, int first) {
        Bench bench = Bench.formatted();
        bench.bigNode(5, 1, size, first);
        return bench;
    }

    private static void soundFiles() {
        expect.yes("an empty file", survives(withFile(0), -1, 0));
        expect.yes("a file of one byte", survives(withFile(1, 62), -1, 0));
        expect.yes("a file of 64 bytes", survives(withFile(64, 18), -1, 0));
        expect.yes("a file of 65 bytes", survives(withFile(65, 20, 18), -1, 0));
        expect.yes("a file of 320 bytes", survives(withFile(320, 20, 21, 22, 23, 24), -1, 0));
        expect.yes("wrong links alone", survives(withFile(64, 18), 1, 99));
        expect.no("kind 3", survives(withFile(64, 18), 0, 3));
        expect.no("kind 0", survives(withFile(64, 18), 0, 0));
        expect.no("too few pointers", survives(withFile(65, 18), -1, 0));
        expect.no("too many pointers", survives(withFile(64, 18, 19), -1, 0));
        expect.no("a pointer of an empty file", survives(withFile(0), 8, 18));
        expect.no("an indirect one not needed", survives(withFile(320, 20, 21, 22, 23, 24), 9, 25));
        expect.no("a pointer of 15", survives(withFile(64, 15), -1, 0));
        expect.no("a pointer of 63", survives(withFile(64, 63), -1, 0));
        expect.no("a pointer of 255", survives(withFile(64, 255), -1, 0));
        expect.no("the same block twice", survives(withFile(128, 18, 18), -1, 0));
        for (int at = 10; at < 14; at++) {
            expect.no("byte " + at, survives(withFile(64, 18), at, 1));
        }
        Bench bench = withFile(64, 18);
        bench.desk.poke(Bench.inodePlace(5) + 15, bench.desk.peek(Bench.inodePlace(5) + 15) ^ 1);
        expect.no("a wrong sum", survives(bench, -1, 0));
        expect.yes("a file of 321 bytes", survives(withBigFile(321, 20), -1, 0));
        expect.yes("a file of 44 blocks", survives(withBigFile(2816, 18), -1, 0));
        expect.no("no indirect one", survives(withBigFile(321, 20), 9, 0));
        expect.no("an indirect one of 63", survives(withBigFile(321, 20), 9, 63));
        expect.no("an indirect one that is a block of it", survives(withBigFile(321, 20), 9, 20));
        bench = withBigFile(321, 20);
        bench.desk.poke(26 * 64 + 63, 1);
        expect.no("a byte behind in the indirect block", survives(bench, -1, 0));
        bench = withBigFile(321, 20);
        bench.desk.poke(26 * 64, 26);
        expect.no("an indirect block that tells itself", survives(bench, -1, 0));
        bench = withBigFile(385, 20);
        bench.desk.poke(27 * 64 + 1, 63);
        expect.no("a block of 63 told by the indirect one", survives(bench, -1, 0));
        bench = withBigFile(2816, 18);
        bench.bytes(Bench.inodePlace(5) + 2, 2945 / 256, 2945 % 256);
        expect.no("a size above 2944", survives(bench, 1, 0));
    }

    private static void soundDirectories() {
        Bench bench = Bench.formatted();
        bench.node(5, 2, 128, 20, 21);
        expect.yes("a directory of two blocks", survives(bench, -1, 0));
        for (int size : new int[] {0, 1, 63, 65, 127, 32}) {
            bench = Bench.formatted();
            bench.node(5, 2, size, size > 64 ? new int[] {20, 21} : size > 0 ? new int[] {20} : new int[0]);
            expect.no("a directory of a size of " + size, survives(bench, -1, 0));
        }
        bench = Bench.formatted();
        bench.node(2, 1, 64, 17);
        bench.desk.repair(-1);
        expect.same("a file as lost and found", bench.desk.inode(2, 0), 2);
        bench = Bench.formatted();
        bench.bytes(512, 2, 2, 0, 64, 20);
        bench.desk.seal(3);
        expect.same("inode 0 in use", bench.desk.repair(-1), 1);
        expect.yes("inode 0 is all 0", bench.isBlank(512, 16));
    }

    private static void sharedBlocks() {
        Bench bench = Bench.formatted();
        bench.node(5, 1, 64, 20);
        bench.node(6, 1, 128, 21, 20);
        bench.node(7, 1, 64, 21);
        bench.node(8, 1, 64, 17);
        bench.bigNode(9, 1, 321, 30);
        bench.node(10, 1, 64, 36);
        bench.desk.repair(-1);
        expect.same("the first one keeps it", bench.desk.inode(5, 0), 1);
        expect.same("the second one goes", bench.desk.inode(6, 0), 0);
        expect.same("what is not sound has no blocks", bench.desk.inode(7, 0), 1);
        expect.same("lost and found's block", bench.desk.inode(8, 0), 0);
        expect.same("the indirect block is its own, too", bench.desk.inode(10, 0), 0);
        expect.same("inode 9", bench.desk.inode(9, 0), 1);
    }

    private static void fixedDirectoriesAreMade() {
        Bench bench = Bench.formatted();
        bench.node(4, 1, 64, 18);
        bench.desk.poke(528, 0);
        for (int k = 0; k < 64; k++) {
            bench.desk.poke(1024 + k, 88);
        }
        bench.desk.repair(-1);
        expect.same("the root takes the first free block", bench.desk.peek(532), 16);
        expect.yes("which is all 0 but for its entries", bench.isFreeEntry(16, 3));
        expect.same("lost+found is there", bench.entryAt(16, 2, "lost+found"), 2);
        expect.same("the file is found", bench.find(2, "#04"), 4);
        bench = Bench.formatted();
        bench.node(4, 1, 64, 18);
        bench.node(2, 2, 0);
        bench.desk.repair(-1);
        expect.same("lost and found takes the first free block", bench.desk.peek(548), 17);
        bench = Bench.formatted();
        bench.node(1, 1, 64, 16);
        bench.node(2, 2, 64, 16);
        bench.desk.repair(-1);
        expect.same("lost and found keeps a block that the root has not", bench.desk.peek(548), 16);
        expect.same("the root has the next one", bench.desk.peek(532), 17);
    }

    private static void lastInodesMakeRoom() {
        Bench bench = new Bench();
        bench.text(0, "SFSK");
        bench.desk.seal(0);
        bench.bigNode(20, 1, 2944, 16);
        bench.node(9, 1, 0);
        bench.node(25, 1, 0);
        bench.node(31, 2, 64, 62);
        bench.desk.repair(-1);
        expect.same("31 is not sound", bench.desk.inode(31, 0), 0);
        expect.same("25 goes first, for nothing", bench.desk.inode(25, 0), 0);
        expect.same("20 makes room", bench.desk.inode(20, 0), 0);
        expect.same("9 stays", bench.find(2, "#09"), 9);
        expect.same("the root", bench.desk.peek(532), 16);
        expect.same("lost and found", bench.desk.peek(548), 17);
        expect.same("check()", bench.desk.check(), 0);
        bench = new Bench();
        bench.text(0, "SFSK");
        bench.desk.seal(0);
        bench.bigNode(30, 1, 2944, 16);
        bench.node(29, 1, 0);
        bench.node(31, 1, 0);
        bench.desk.repair(-1);
        expect.same("31 goes before 30", bench.desk.inode(31, 0) + bench.desk.inode(30, 0), 0);
        expect.same("29 stays", bench.find(2, "#29"), 29);
        bench = new Bench();
        bench.text(0, "SFSK");
        bench.desk.seal(0);
        bench.bigNode(31, 1, 2944, 16);
        bench.node(30, 1, 0);
        bench.desk.repair(-1);
        expect.same("31 alone goes", bench.desk.inode(31, 0), 0);
        expect.same("30 stays", bench.find(2, "#30"), 30);
        bench = new Bench();
        bench.text(0, "SFSK");
        bench.desk.seal(0);
        bench.bigNode(2, 2, 2944, 16);
        bench.desk.repair(-1);
        expect.same("lost and found makes room for the root", bench.desk.peek(532), 16);
        expect.same("and is made", bench.desk.peek(548), 17);
        expect.same("of one block", bench.desk.inode(2, 2), 64);
    }

    private static void lostAndFoundMayStayFree() {
        Bench bench = Bench.formatted();
        bench.bigNode(1, 2, 2944, 16);
        bench.node(2, 2, 64, 62);
        bench.node(3, 1, 0);
        bench.node(12, 1, 0);
        for (int block = 17; block < 62; block++) {
            for (int slot = 0; slot < 4; slot++) {
                bench.entry(block, slot, 0, "");
            }
        }
        bench.entry(16, 2, 3, "a");
        bench.desk.repair(-1);
        expect.same("the root keeps its blocks", bench.desk.inode(1, 2), 2944);
        expect.same("lost and found stays free", bench.desk.inode(2, 0), 0);
        expect.same("all others went for it", bench.desk.inode(3, 0) + bench.desk.inode(12, 0), 0);
        expect.yes("the third place is free", bench.isFreeEntry(16, 2));
        expect.same("links of the root", bench.desk.inode(1, 1), 2);
        expect.same("free blocks", bench.desk.peek(5), 0);
        expect.same("free inodes", bench.desk.peek(7), 30);
        expect.same("check()", bench.desk.check(), 0);
        expect.same("no block for a directory", bench.make(1, "d", 2), -1);
        expect.same("a file has its entry in the third place", bench.make(1, "f", 1), 3);
        expect.same("that is there", bench.entryAt(16, 2, "f"), 3);
    }

    /** The root has blocks 16, 18, 19 and the files 3, 4, 5 in it. */
    private static Bench wideRoot() {
        Bench bench = Bench.formatted();
        bench.node(1, 2, 192, 16, 18, 19);
        for (int slot = 0; slot < 8; slot++) {
            bench.entry(18 + slot / 4, slot % 4, 0, "");
        }
        for (int i = 3; i < 6; i++) {
            bench.node(i, 1, 0);
            bench.entry(19, i - 2, i, "f" + i);
        }
        return bench;
    }

    /** Whether an entry of the root's second block, with a byte changed, stays. */
    private static boolean staysSpoilt(String name, int at, int v) {
        Bench bench = wideRoot();
        bench.entry(18, 1, 3, name);
        if (at >= 0) {
            bench.desk.poke(18 * 64 + 16 + at, v);
        }
        bench.desk.repair(-1);
        boolean gone = bench.isFreeEntry(18, 1);
        expect.same("links with " + name, bench.desk.inode(3, 1), gone || bench.desk.peek(18 * 64 + 16) != 3 ? 1 : 2);
        expect.same("check() with " + name, bench.desk.check(), 0);
        return !gone;
    }

    private static void entriesAreTidied() {
        expect.yes("a plain name", staysSpoilt("x", -1, 0));
        expect.yes("fourteen bytes", staysSpoilt("abcdefghijklmn", -1, 0));
        expect.yes("three dots", staysSpoilt("...", -1, 0));
        expect.yes("a dot before", staysSpoilt(".x", -1, 0));
        expect.yes("a byte of 255", staysSpoilt("x", 2, 255));
        expect.yes("another file", staysSpoilt("x", 0, 4));
        expect.no("one dot", staysSpoilt(".", -1, 0));
        expect.no("two dots", staysSpoilt("..", -1, 0));
        expect.no("no name", staysSpoilt("", -1, 0));
        expect.no("a slash", staysSpoilt("a/b", -1, 0));
        expect.no("a byte 0 in it", staysSpoilt("a\0b", -1, 0));
        expect.no("a length of 15", staysSpoilt("abcdefghijklmn", 1, 15));
        expect.no("a length too small", staysSpoilt("ab", 1, 1));
        expect.no("a length too great", staysSpoilt("ab", 1, 3));
        expect.no("the last byte behind it", staysSpoilt("x", 15, 1));
        for (int i : new int[] {0, 1, 2, 6, 31, 32, 255}) {
            expect.no("of inode " + i, staysSpoilt("x", 0, i));
        }
        Bench bench = wideRoot();
        bench.entry(16, 0, 5, "kept?");
        bench.entry(16, 1, 3, "..");
        bench.entry(16, 2, 4, "no");
        bench.desk.repair(-1);
        expect.same("the first entry", bench.entryAt(16, 0, "."), 1);
        expect.same("the second one", bench.entryAt(16, 1, ".."), 1);
        expect.same("the third one", bench.entryAt(16, 2, "lost+found"), 2);
    }

    private static void sameNamesAreTidied() {
        Bench bench = wideRoot();
        bench.entry(18, 0, 3, "lost+found");
        bench.entry(18, 1, 7, "twice");
        bench.entry(18, 2, 4, "twice");
        bench.entry(18, 3, 5, "twice");
        bench.entry(17, 2, 3, "lost+found");
        bench.entry(17, 3, 3, "twice");
        bench.desk.repair(-1);
        expect.yes("lost+found a second time in the root", bench.isFreeEntry(18, 0));
        expect.yes("an entry that is not valid", bench.isFreeEntry(18, 1));
        expect.same("does not count: the next one stays", bench.entryAt(18, 2, "twice"), 4);
        expect.yes("the one behind it goes", bench.isFreeEntry(18, 3));
        expect.same("lost+found elsewhere is a name", bench.entryAt(17, 2, "lost+found"), 3);
        expect.same("the same name elsewhere stays", bench.entryAt(17, 3, "twice"), 3);
    }

    private static void treeIsReachedInOrder() {
        Bench bench = wideRoot();
        // root: 6 before 7; both have 8; 7 has 6, too; 8 has itself and the file 3
        for (int i = 6; i < 9; i++) {
            bench.node(i, 2, 64, 20 + i);
            for (int slot = 0; slot < 4; slot++) {
                bench.entry(20 + i, slot, 0, "");
            }
        }
        bench.entry(18, 0, 7, "seven");
        bench.entry(18, 1, 6, "six");
        bench.entry(26, 2, 8, "late");
        bench.entry(27, 2, 6, "again");
        bench.entry(27, 3, 8, "early");
        bench.entry(28, 2, 8, "self");
        bench.entry(28, 3, 3, "three");
        bench.desk.repair(-1);
        expect.same("8 is reached by 7, which is reached first", bench.entryAt(27, 3, "early"), 8);
        expect.same(".. of 8", bench.entryAt(28, 1, ".."), 7);
        expect.yes("the second entry of 8 goes", bench.isFreeEntry(26, 2));
        expect.same("6 is reached by the root before 7 is gone through", bench.entryAt(18, 1, "six"), 6);
        expect.yes("the one in 7 goes", bench.isFreeEntry(27, 2));
        expect.yes("an entry of a directory in itself goes", bench.isFreeEntry(28, 2));
        expect.same("a file may have many", bench.entryAt(28, 3, "three"), 3);
        expect.same("links of 3", bench.desk.inode(3, 1), 2);
        expect.same("links of 6", bench.desk.inode(6, 1), 2);
        expect.same("links of 7", bench.desk.inode(7, 1), 3);
        expect.same("links of the root", bench.desk.inode(1, 1), 5);
        expect.same("check()", bench.desk.check(), 0);
    }

    private static void lostInodesArePut() {
        Bench bench = Bench.formatted();
        // a ring of 4 and 5 outside the tree; 9 has the file 3 and 4
        for (int i : new int[] {4, 5, 9}) {
            bench.node(i, 2, 64, 20 + i);
        }
        bench.node(3, 1, 10, 20);
        bench.entry(24, 2, 5, "five");
        bench.entry(25, 2, 4, "four");
        bench.entry(29, 2, 3, "three");
        bench.entry(29, 3, 4, "four");
        bench.desk.repair(-1);
        expect.same("3 comes first", bench.entryAt(17, 2, "#03"), 3);
        expect.same("then 4", bench.entryAt(17, 3, "#04"), 4);
        expect.same("which reaches 5", bench.entryAt(24, 2, "five"), 5);
        expect.same(".. of 4", bench.entryAt(24, 1, ".."), 2);
        expect.same(".. of 5", bench.entryAt(25, 1, ".."), 4);
        expect.yes("whose entry of 4 goes", bench.isFreeEntry(25, 2));
        expect.same("9 lies in a new block, the first free one", bench.entryAt(18, 0, "#09"), 9);
        expect.same("size of lost and found", bench.desk.inode(2, 2), 128);
        expect.same("its second pointer", bench.desk.peek(549), 18);
        expect.same("9 keeps its entry of a file", bench.entryAt(29, 2, "three"), 3);
        expect.yes("but not the one of a directory", bench.isFreeEntry(29, 3));
        expect.same("links of 3", bench.desk.inode(3, 1), 2);
        expect.same("links of lost and found", bench.desk.inode(2, 1), 4);
        expect.same("check()", bench.desk.check(), 0);
    }

    /** Lost and found has the blocks 17 to 17 + count - 1, and as many entries of file 3 as are told. */
    private static Bench wideLostAndFound(int count, int entries) {
        Bench bench = Bench.formatted();
        bench.bigNode(2, 2, count * 64, 17);
        bench.node(3, 1, 0);
        for (int e = 2; e < count * 4; e++) {
            bench.entry(17 + e / 4, e % 4, e < entries + 2 ? 3 : 0, e < entries + 2 ? "e" + e : "");
        }
        return bench;
    }

    private static void lostNamesGetMarks() {
        for (int taken = 0; taken <= 12; taken++) {
            Bench bench = wideLostAndFound(4, 0);
            bench.node(31, 1, 1, 40);
            bench.entry(17, 2, 3, "file");
            for (int marks = 1; marks <= taken; marks++) {
                bench.entry(17 + (marks + 2) / 4, (marks + 2) % 4, 3, "#".repeat(marks) + "31");
            }
            bench.desk.repair(-1);
            int slot = taken + 3;
            if (taken < 12) {
                expect.same(taken + " names taken", bench.entryAt(17 + slot / 4, slot % 4, "#".repeat(taken + 1) + "31"), 31);
            } else {
                expect.same("all names taken", bench.desk.inode(31, 0), 0);
                expect.same("its block is free", bench.desk.peek(448 + 5) >> 7, 0);
                expect.yes("nothing was put", bench.isFreeEntry(20, 3));
            }
            expect.same("check()", bench.desk.check(), 0);
        }
    }

    private static void lostAndFoundGrows() {
        Bench bench = wideLostAndFound(5, 18);
        bench.node(7, 1, 0);
        bench.desk.poke(23 * 64 + 9, 1);
        bench.desk.repair(-1);
        expect.same("the sixth block is the first free one", bench.entryAt(22, 0, "#07"), 7);
        expect.same("the indirect one the next", bench.desk.peek(Bench.inodePlace(2) + 9), 23);
        expect.same("it tells the sixth", bench.desk.peek(23 * 64), 22);
        expect.yes("and nothing else", bench.isBlank(23 * 64 + 1, 63));
        expect.same("size", bench.desk.inode(2, 2), 384);
        bench.node(8, 1, 0);
        bench.node(9, 1, 0);
        bench.node(10, 1, 0);
        bench.node(11, 1, 0);
        bench.desk.repair(-1);
        expect.same("the seventh block", bench.entryAt(24, 0, "#11"), 11);
        expect.same("is told, too", bench.desk.peek(23 * 64 + 1), 24);
        expect.same("check()", bench.desk.check(), 0);
    }

    private static void whatCannotBePutGoes() {
        // lost and found has five blocks, all full; file 4 leaves one block free, where two are needed
        Bench bench = wideLostAndFound(5, 18);
        bench.entry(17, 2, 4, "four");
        bench.bigNode(4, 1, 36 * 64, 22);
        bench.node(5, 1, 0);
        bench.node(6, 2, 64, 59);
        bench.node(7, 2, 64, 60);
        bench.node(8, 1, 0);
        for (int slot = 0; slot < 4; slot++) {
            bench.entry(59, slot, 0, "");
            bench.entry(60, slot, 0, "");
        }
        bench.entry(59, 2, 5, "five");
        bench.entry(59, 3, 99, "junk");
        bench.entry(60, 2, 6, "six");
        bench.entry(60, 3, 8, "eight");
        bench.node(9, 1, 60, 61);
        bench.desk.repair(-1);
        expect.same("5 can't be put", bench.desk.inode(5, 0), 0);
        expect.same("6 can't, either", bench.desk.inode(6, 0), 0);
        expect.same("7 can: 6 left its block", bench.entryAt(59, 0, "#07"), 7);
        expect.same("the next free one is the indirect one", bench.desk.peek(Bench.inodePlace(2) + 9), 62);
        expect.yes("the entry of 6 in 7 went with it", bench.isFreeEntry(60, 2));
        expect.same("that of 8 stays", bench.entryAt(60, 3, "eight"), 8);
        expect.same("9 is put", bench.entryAt(59, 1, "#09"), 9);
        expect.same("check()", bench.desk.check(), 0);
        bytesOfWhatGoesStay();
    }

    private static void bytesOfWhatGoesStay() {
        // no block is free; 5 and 6 can't be put, 6 is gone over by the passes before it goes
        Bench bench = wideLostAndFound(5, 18);
        bench.entry(17, 2, 4, "four");
        bench.bigNode(4, 1, 38 * 64, 22);
        bench.node(5, 1, 0);
        bench.node(6, 2, 64, 61);
        bench.entry(61, 0, 0, "");
        bench.entry(61, 1, 0, "");
        bench.entry(61, 2, 5, "five");
        bench.entry(61, 3, 3, "three");
        bench.node(7, 1, 3, 62);
        bench.text(62 * 64, "abc");
        bench.desk.repair(-1);
        expect.same("inodes 5, 6, 7", bench.desk.inode(5, 0) + bench.desk.inode(6, 0) + bench.desk.inode(7, 0), 0);
        expect.same("the first entry of 6 was written", bench.entryAt(61, 0, "."), 6);
        expect.yes("its entry of 5 went", bench.isFreeEntry(61, 2));
        expect.same("the other one stays", bench.entryAt(61, 3, "three"), 3);
        expect.same("but is no link any more", bench.desk.inode(3, 1), 17);
        expect.same("the bytes of 7 stay", bench.desk.peek(62 * 64 + 1), 'b');
        expect.same("free blocks", bench.desk.peek(5), 2);
        expect.same("check()", bench.desk.check(), 0);
    }

    private static void linksMapsAndSupersAreSet() {
        int[][] spoilt = {{4, 9}, {5, 9}, {7, 9}, {8, 1}, {61, 1}, {448, 127}, {455, 0}, {450, 255}, {456, 0}, {459, 1},
            {460, 1}, {511, 1}, {4036, 9}, {4093, 1}};
        for (int[] each : spoilt) {
            Bench bench = Bench.formatted();
            int before = bench.desk.peek(each[0]);
            bench.desk.poke(each[0], each[1]);
            bench.desk.seal(0);
            bench.desk.seal(1);
            expect.same("check() with " + each[1] + " at " + each[0], bench.desk.check(), 1);
            expect.same("repair(-1)", bench.desk.repair(-1), 1);
            expect.same("peek(" + each[0] + ")", bench.desk.peek(each[0]), before);
        }
        Bench bench = Bench.formatted();
        bench.bytes(529, 77);
        bench.desk.seal(4);
        expect.same("wrong links", bench.desk.repair(-1), 1);
        expect.same("links of the root", bench.desk.inode(1, 1), 3);
        expect.same("its sum", bench.desk.peek(543), 85);
        bench.node(3, 1, 321, 20, 21, 22, 23, 24);
        bench.desk.poke(Bench.inodePlace(3) + 9, 62);
        bench.desk.poke(62 * 64, 40);
        bench.desk.seal(6);
        bench.desk.repair(-1);
        // blocks 16, 17, 20 to 24, 40 and 62, and inodes 0 to 3
        int[] map = {0xff, 0xff, 0xcf, 0x80, 0, 0x80, 0, 0x03, 0xf0};
        for (int k = 0; k < map.length; k++) {
            expect.same("map byte " + k, bench.desk.peek(448 + k), map[k]);
        }
        expect.same("free blocks", bench.desk.peek(4) * 256 + bench.desk.peek(5), 38);
        expect.same("free inodes", bench.desk.peek(6) * 256 + bench.desk.peek(7), 28);
        expect.same("free blocks in the last super", bench.desk.peek(4037), 38);
    }
}
