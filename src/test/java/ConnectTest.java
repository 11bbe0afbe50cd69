/** Pass 3: what is reached, what is put into lost and found, and what can't be put. */
public final class ConnectTest {
    private static final Expect expect = new Expect();

    public static void main(String[] args) {
        treeIsReachedInOrder();
        directoriesAreReachedOnce();
        filesAreReachedOften();
        nothingIsLost();
        lostInodesArePut();
        firstFreePlace();
        fullDirectoryGetsABlock();
        fiveBlocksGetAnIndirectOne();
        moreThanFiveBlocksHaveOne();
        notAsManyBlocks();
        greatestSize();
        marksBeforeDigits();
        twelveMarksAtMost();
        twoDigits();
        noSuchDirectory();
        blocksOfWhatGoes();
        entriesOfWhatGoes();
        putDirectoriesHaveAParent();
        expect.end();
    }

    /** The root has blocks 16 and 18, with its entries from 18 on free; 3 is a file, the directories 6, 7, 8 lie in 26 to 28. */
    private static Bench wideRoot() {
        Bench bench = Bench.formatted();
        bench.node(1, 2, 128, 16, 18);
        bench.fill(18 * 64, 64, 0);
        bench.node(3, 1, 0);
        for (int i = 6; i < 9; i++) {
            bench.directory(i, 20 + i);
        }
        return bench;
    }

    private static void treeIsReachedInOrder() {
        expect.sentence("Directories that are reached are gone through, the one reached first before the next one, their entries in order");
        Bench bench = wideRoot();
        bench.entry(18, 0, 7, "seven");
        bench.entry(18, 1, 6, "six");
        bench.entry(26, 2, 8, "late");
        bench.entry(27, 2, 6, "again");
        bench.entry(27, 3, 8, "early");
        bench.desk.repair(-1);
        expect.same("8 is reached by 7, which is reached first", bench.entryAt(27, 3, "early"), 8);
        expect.same(".. of 8", bench.entryAt(28, 1, ".."), 7);
        expect.yes("the entry of 8 in 6 goes", bench.isFreeEntry(26, 2));
        expect.same("6 is reached by the root before 7 is gone through", bench.entryAt(18, 1, "six"), 6);
        expect.same(".. of 6", bench.entryAt(26, 1, ".."), 1);
        expect.yes("the entry of 6 in 7 goes", bench.isFreeEntry(27, 2));
        expect.same("links of 6", bench.desk.inode(6, 1), 2);
        expect.same("links of 7", bench.desk.inode(7, 1), 3);
        expect.same("links of the root", bench.desk.inode(1, 1), 5);
        expect.same("check()", bench.desk.check(), 0);
        bench = wideRoot();
        bench.entry(16, 3, 6, "x");
        bench.entry(17, 2, 8, "by lost+found");
        bench.entry(26, 2, 8, "by six");
        bench.desk.repair(-1);
        expect.same("lost and found is reached before 6", bench.entryAt(17, 2, "by lost+found"), 8);
        expect.yes("so that the entry in 6 goes", bench.isFreeEntry(26, 2));
    }

    private static void directoriesAreReachedOnce() {
        expect.sentence("one of a directory that is reached already is all 0 then.");
        Bench bench = wideRoot();
        bench.entry(18, 0, 6, "one");
        bench.entry(18, 1, 6, "two");
        bench.entry(26, 2, 6, "self");
        bench.entry(26, 3, 7, "down");
        bench.entry(27, 2, 6, "up");
        bench.entry(27, 3, 8, "on");
        bench.desk.repair(-1);
        expect.same("the first entry stays", bench.entryAt(18, 0, "one"), 6);
        expect.yes("the second one goes", bench.isFreeEntry(18, 1));
        expect.yes("an entry of a directory in itself goes", bench.isFreeEntry(26, 2));
        expect.yes("a ring goes", bench.isFreeEntry(27, 2));
        expect.same("the end of the tree stays", bench.entryAt(27, 3, "on"), 8);
        expect.same("nothing is lost", bench.desk.inode(2, 1), 2);
    }

    private static void filesAreReachedOften() {
        expect.sentence("an entry of a file reaches it");
        Bench bench = wideRoot();
        bench.entry(18, 0, 3, "one");
        bench.entry(18, 3, 3, "two");
        bench.entry(17, 3, 3, "three");
        bench.entry(16, 3, 6, "six");
        bench.entry(26, 3, 3, "four");
        bench.desk.repair(-1);
        expect.same("the first one", bench.entryAt(18, 0, "one"), 3);
        expect.same("the second one", bench.entryAt(18, 3, "two"), 3);
        expect.same("in lost and found", bench.entryAt(17, 3, "three"), 3);
        expect.same("in 6", bench.entryAt(26, 3, "four"), 3);
        expect.same("links", bench.desk.inode(3, 1), 4);
    }

    private static void nothingIsLost() {
        expect.sentence("Then the first inode in use, by number, that is not reached is PUT [and none if there is none]");
        Bench bench = Bench.formatted();
        bench.make(1, "a", 2);
        bench.make(3, "b", 1);
        int[] before = bench.snapshot();
        expect.same("repair(-1)", bench.desk.repair(-1), 0);
        expect.unchanged("behind it", bench, before);
    }

    private static void lostInodesArePut() {
        expect.sentence("if it is a directory, it, and what is reached by it, is gone through; then the first one that is not reached, and so on.");
        Bench bench = Bench.formatted();
        // a ring of 4 and 5 outside the tree; 9 has the file 3 and 4
        bench.directory(4, 24);
        bench.directory(5, 25);
        bench.directory(9, 29);
        bench.node(3, 1, 10, 20);
        bench.entry(24, 2, 5, "five");
        bench.entry(25, 2, 4, "four");
        bench.entry(29, 2, 3, "three");
        bench.entry(29, 3, 4, "four");
        bench.desk.repair(-1);
        expect.same("3 comes first", bench.entryAt(17, 2, "#03"), 3);
        expect.same("then 4", bench.entryAt(17, 3, "#04"), 4);
        expect.same("which reaches 5", bench.entryAt(24, 2, "five"), 5);
        expect.same(".. of 5", bench.entryAt(25, 1, ".."), 4);
        expect.yes("whose entry of 4 goes", bench.isFreeEntry(25, 2));
        expect.same("9 lies in a new block", bench.entryAt(18, 0, "#09"), 9);
        expect.same("9 keeps its entry of a file", bench.entryAt(29, 2, "three"), 3);
        expect.yes("but not the one of a directory", bench.isFreeEntry(29, 3));
        expect.same("links of 3", bench.desk.inode(3, 1), 2);
        expect.same("links of lost and found", bench.desk.inode(2, 1), 4);
        expect.same("check()", bench.desk.check(), 0);
        bench = Bench.formatted();
        bench.node(31, 1, 0);
        bench.desk.repair(-1);
        expect.same("the last inode", bench.entryAt(17, 2, "#31"), 31);
    }

    /**
     * Lost and found has so many blocks from 17 on and so many entries, the first one of file 4, the others of file 3;
     * file 4 leaves so many blocks free; file 5 has no entry.
     */
    private static Bench withLost(int count, int entries, int free) {
        Bench bench = Bench.formatted();
        bench.bigNode(2, 2, count * 64, 17);
        bench.node(3, 1, 0);
        int next = 17 + count + (count > 5 ? 1 : 0);
        bench.bigNode(4, 1, (62 - next - free) * 64, next);
        bench.node(5, 1, 0);
        for (int e = 2; e < count * 4; e++) {
            boolean used = e < entries + 2;
            bench.entry(17 + e / 4, e % 4, used ? e == 2 ? 4 : 3 : 0, used ? "e" + e : "");
        }
        bench.entry(16, 3, 3, "three");
        return bench;
    }

    private static void firstFreePlace() {
        expect.sentence("TO PUT an entry is to write it into the first free place of a directory that is reached (from the third one on).");
        for (int place = 2; place < 28; place++) {
            Bench bench = withLost(7, 26, 2);
            bench.entry(16, 3, 4, "four");
            bench.entry(17 + place / 4, place % 4, 0, "");
            bench.entry(23, 3, 0, "");
            bench.desk.repair(-1);
            expect.same("place " + place, bench.entryAt(17 + place / 4, place % 4, "#05"), 5);
            expect.same("no block was taken", bench.desk.inode(2, 2), 448);
        }
    }

    private static void fullDirectoryGetsABlock() {
        expect.sentence("If there is none, the directory gets one block more at its end, the first one of 16 .. 62 that no inode in use has, all 0");
        for (int count = 1; count < 5; count++) {
            Bench bench = withLost(count, count * 4 - 2, 2);
            bench.fill(61 * 64, 128, 77);
            bench.desk.repair(-1);
            expect.same(count + " blocks: the next one", bench.pointer(2, count), 61);
            expect.same(count + " blocks: its first entry", bench.entryAt(61, 0, "#05"), 5);
            expect.yes(count + " blocks: it is all 0 behind it", bench.isBlank(61 * 64 + 16, 48));
            expect.same(count + " blocks: size", bench.desk.inode(2, 2), count * 64 + 64);
            expect.same(count + " blocks: the block behind is not touched", bench.desk.peek(62 * 64), 77);
            expect.same("check()", bench.desk.check(), 0);
        }
        Bench bench = Bench.formatted();
        bench.node(1, 2, 64, 30);
        for (int k = 0; k < 64; k++) {
            bench.desk.poke(30 * 64 + k, bench.desk.peek(16 * 64 + k));
        }
        for (int i = 3; i < 6; i++) {
            bench.node(i, 1, 0);
        }
        bench.desk.repair(-1);
        expect.same("block 16, if it is the first one", bench.entryAt(16, 0, "#05"), 5);
    }

    private static void fiveBlocksGetAnIndirectOne() {
        expect.sentence("when it had five, the next such one becomes its indirect block, all 0 but for the byte that is told");
        Bench bench = withLost(5, 18, 3);
        bench.fill(60 * 64, 192, 77);
        bench.desk.repair(-1);
        expect.same("the sixth block is the first free one", bench.entryAt(60, 0, "#05"), 5);
        expect.same("the indirect one the next", bench.indirect(2), 61);
        expect.same("it tells the sixth", bench.desk.peek(61 * 64), 60);
        expect.yes("and nothing else", bench.isBlank(61 * 64 + 1, 63));
        expect.same("size", bench.desk.inode(2, 2), 384);
        expect.same("the third one is not touched", bench.desk.peek(62 * 64), 77);
        expect.same("free blocks", bench.freeBlocks(), 1);
        expect.same("check()", bench.desk.check(), 0);
    }

    private static void moreThanFiveBlocksHaveOne() {
        expect.sentence("when it had five, the next such one becomes its indirect block [and not when it had more]");
        for (int count : new int[] {6, 7, 12}) {
            Bench bench = withLost(count, count * 4 - 2, 2);
            bench.desk.repair(-1);
            expect.same(count + " blocks: the entry", bench.entryAt(61, 0, "#05"), 5);
            expect.same(count + " blocks: the indirect one", bench.indirect(2), 17 + count);
            expect.same(count + " blocks: it tells the next", bench.desk.peek((17 + count) * 64 + count - 5), 61);
            expect.same(count + " blocks: free ones", bench.freeBlocks(), 1);
            expect.same("check()", bench.desk.check(), 0);
        }
    }

    private static void notAsManyBlocks() {
        expect.sentence("if there are not as many such blocks (..) the entry can't be put.");
        for (int count = 1; count <= 7; count++) {
            int needed = count == 5 ? 2 : 1;
            for (int free = 0; free <= 2; free++) {
                Bench bench = withLost(count, count * 4 - 2, free);
                int[] before = bench.snapshot();
                bench.desk.repair(-1);
                boolean put = free >= needed;
                String what = count + " blocks, " + free + " free: ";
                expect.same(what + "file 5", bench.desk.inode(5, 0), put ? 1 : 0);
                expect.same(what + "size", bench.desk.inode(2, 2), count * 64 + (put ? 64 : 0));
                expect.same(what + "free blocks", bench.freeBlocks(), put ? free - needed : free);
                expect.same(what + "file 4", bench.desk.inode(4, 0), 1);
                for (int p = 61 * 64; !put && p < 63 * 64; p++) {
                    expect.same(what + "peek(" + p + ")", bench.desk.peek(p), before[p]);
                }
                expect.same("check()", bench.desk.check(), 0);
            }
        }
    }

    private static void greatestSize() {
        expect.sentence("or its size would be above 2944, the entry can't be put.");
        // beside the root's block there are 46: 45 and an indirect one for lost and found, that is a size of 2880
        for (int count = 44; count <= 45; count++) {
            Bench bench = Bench.formatted();
            bench.bigNode(2, 2, count * 64, 17);
            bench.node(3, 1, 0);
            bench.node(5, 1, 0);
            for (int e = 2; e < count * 4; e++) {
                bench.entry(17 + e / 4, e % 4, 3, "e" + e);
            }
            bench.desk.repair(-1);
            expect.same(count + " full blocks: size", bench.desk.inode(2, 2), 2880);
            expect.same(count + " full blocks: file 5", bench.desk.inode(5, 0), count == 44 ? 1 : 0);
            expect.same(count + " full blocks: free ones", bench.freeBlocks(), 0);
            expect.same(count + " full blocks: its links", bench.desk.inode(3, 1), count * 4 - 2);
            expect.same("check()", bench.desk.check(), 0);
        }
    }

    /** Lost and found has four blocks and the names of inode 31 with 1 up to so many marks, but for one of them. */
    private static Bench withNames(int marks, int without) {
        Bench bench = Bench.formatted();
        bench.bigNode(2, 2, 256, 17);
        bench.node(3, 1, 0);
        bench.node(31, 1, 1, 40);
        bench.entry(17, 2, 3, "file");
        for (int place = 3; place < 16; place++) {
            boolean used = place - 2 <= marks && place - 2 != without;
            bench.entry(17 + place / 4, place % 4, used ? 3 : 0, used ? "#".repeat(place - 2) + "31" : "");
        }
        return bench;
    }

    private static void marksBeforeDigits() {
        expect.sentence("If the name # and digits is there already, ## is taken before the digits, then ### and so on");
        for (int taken = 0; taken < 12; taken++) {
            Bench bench = withNames(taken, 0);
            bench.desk.repair(-1);
            int place = taken + 3;
            String name = "#".repeat(taken + 1) + "31";
            expect.same(taken + " names taken", bench.entryAt(17 + place / 4, place % 4, name), 31);
            expect.same("check()", bench.desk.check(), 0);
        }
        Bench bench = withNames(4, 2);
        bench.desk.repair(-1);
        expect.same("the first name that is not there", bench.entryAt(18, 0, "##31"), 31);
    }

    private static void twelveMarksAtMost() {
        expect.sentence("(with 12 # at most; otherwise it can't be put)");
        Bench bench = withNames(12, 0);
        bench.desk.repair(-1);
        expect.yes("all names taken", bench.isFreeInode(31));
        expect.no("its block is free", bench.isUsedBlock(40));
        expect.yes("nothing was put", bench.isFreeEntry(20, 3));
        expect.same("the others stay", bench.desk.inode(3, 1), 13);
        expect.same("check()", bench.desk.check(), 0);
        bench = withNames(12, 12);
        bench.desk.repair(-1);
        expect.same("the last name left", bench.entryAt(20, 2, "############31"), 31);
        // no name is left, nor a place: no block is taken for it
        bench = withNames(12, 0);
        bench.entry(20, 3, 3, "x");
        bench.desk.repair(-1);
        expect.same("size of lost and found", bench.desk.inode(2, 2), 256);
    }

    private static void twoDigits() {
        expect.sentence("PUT into lost and found by the name # and its two digits");
        for (int i = 3; i < 32; i++) {
            Bench bench = Bench.formatted();
            bench.node(i, i % 2 + 1, 64, 40);
            bench.desk.repair(-1);
            expect.same("inode " + i, bench.entryAt(17, 2, "#" + i / 10 + i % 10), i);
        }
    }

    private static void noSuchDirectory() {
        expect.sentence("What can't be put (there being no such directory, too) is all 0");
        // a root with all blocks leaves no lost and found, and then none of the others stays for it, either
        Bench bench = Bench.withSuper();
        bench.bigNode(1, 2, 2944, 16);
        bench.node(3, 1, 0);
        bench.desk.repair(-1);
        expect.yes("no lost and found", bench.isFreeInode(2));
        expect.yes("the file is all 0", bench.isFreeInode(3));
    }

    private static void blocksOfWhatGoes() {
        expect.sentence("its blocks are no more its own (their bytes stay)");
        // no place is left, and one block where two are needed: 5 goes; 6 goes, too, but leaves a block for 7
        Bench bench = withLost(5, 18, 4);
        bench.directory(6, 59);
        bench.directory(7, 60);
        bench.node(9, 1, 60, 61);
        bench.desk.repair(-1);
        expect.same("5 can't be put", bench.desk.inode(5, 0), 0);
        expect.same("6 can't, either", bench.desk.inode(6, 0), 0);
        expect.same("7 can: 6 left its block", bench.entryAt(59, 0, "#07"), 7);
        expect.same("the next free one is the indirect one", bench.indirect(2), 62);
        expect.same("9 is put", bench.entryAt(59, 1, "#09"), 9);
        expect.same("check()", bench.desk.check(), 0);
        bench = withLost(5, 18, 2);
        bench.directory(6, 61);
        bench.entry(61, 3, 3, "three");
        bench.node(7, 1, 3, 62);
        bench.text(62 * 64, "abc");
        bench.desk.repair(-1);
        expect.same("6 and 7 can't be put", bench.desk.inode(6, 0) + bench.desk.inode(7, 0), 0);
        expect.same("the first entry of 6 was written before", bench.entryAt(61, 0, "."), 6);
        expect.same("its entry of a file stays", bench.entryAt(61, 3, "three"), 3);
        expect.same("but is no link any more", bench.desk.inode(3, 1), 18);
        expect.same("the bytes of 7 stay", bench.desk.peek(62 * 64 + 1), 'b');
        expect.same("both blocks are free", bench.freeBlocks(), 2);
        expect.no("in the map, too", bench.isUsedBlock(61) || bench.isUsedBlock(62));
        expect.same("check()", bench.desk.check(), 0);
    }

    private static void entriesOfWhatGoes() {
        expect.sentence("entries of it in all directories in use are all 0.");
        Bench bench = withLost(5, 18, 4);
        bench.directory(6, 59);
        bench.directory(7, 60);
        bench.node(8, 1, 0);
        bench.node(9, 1, 60, 61);
        bench.entry(59, 2, 5, "five");
        bench.entry(59, 3, 6, "self");
        bench.entry(60, 2, 6, "six");
        bench.entry(60, 3, 8, "eight");
        bench.desk.repair(-1);
        expect.same("5 and 6 can't be put", bench.desk.inode(5, 0) + bench.desk.inode(6, 0), 0);
        expect.yes("the entry of 6 in 7 went", bench.isFreeEntry(60, 2));
        expect.same("that of 8 stays", bench.entryAt(60, 3, "eight"), 8);
        expect.same("8 is reached by it", bench.find(2, "#08"), -1);
        bench = withLost(5, 18, 2);
        bench.directory(6, 61);
        bench.entry(61, 2, 5, "five");
        bench.entry(61, 3, 6, "self");
        bench.node(7, 1, 0);
        bench.node(31, 1, 3, 62);
        bench.desk.repair(-1);
        expect.same("5 and 6 can't be put", bench.desk.inode(5, 0) + bench.desk.inode(6, 0), 0);
        expect.yes("the entry of 5 in 6 went while 6 was in use", bench.isFreeEntry(61, 2));
        expect.same("the entry of 6 in itself stays: it is no more in use", bench.entryAt(61, 3, "self"), 6);
    }

    private static void putDirectoriesHaveAParent() {
        expect.sentence("(A directory that is put has the directory that it is put into for its ..)");
        Bench bench = Bench.formatted();
        bench.directory(9, 40);
        bench.directory(10, 41);
        bench.entry(40, 2, 10, "ten");
        bench.desk.repair(-1);
        expect.same(".. of 9", bench.entryAt(40, 1, ".."), 2);
        expect.same(".. of 10", bench.entryAt(41, 1, ".."), 9);
        expect.same(". of 9", bench.entryAt(40, 0, "."), 9);
        expect.same("links of lost and found", bench.desk.inode(2, 1), 3);
    }
}
