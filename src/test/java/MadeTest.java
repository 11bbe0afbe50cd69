/** Pass 1: how the root and lost and found are made, on disks with room and without. */
public final class MadeTest {
    private static final Expect expect = new Expect();

    public static void main(String[] args) {
        firstFreeBlockIsTaken();
        takenBlockIsBlank();
        rootComesFirst();
        soundOnesStay();
        lastBlockIsTaken();
        greatestNumberGoesFirst();
        noMoreThanNeededGo();
        lostAndFoundMayGo();
        lostAndFoundMayStayFree();
        expect.end();
    }

    private static void firstFreeBlockIsTaken() {
        expect.sentence("a directory of one block, the first one of 16 .. 62 that no inode in use has");
        Bench bench = Bench.withSuper();
        bench.desk.repair(-1);
        expect.same("the root's block", bench.pointer(1, 0), 16);
        expect.same("lost and found's", bench.pointer(2, 0), 17);
        for (int i = 1; i <= 2; i++) {
            expect.same("size of inode " + i, bench.desk.inode(i, 2), 64);
            expect.same("its second pointer", bench.pointer(i, 1), 0);
        }
        bench = Bench.withSuper();
        bench.node(5, 1, 64, 16);
        bench.node(6, 1, 64, 18);
        bench.node(7, 3, 64, 17);
        bench.bigNode(8, 1, 321, 19);
        bench.desk.repair(-1);
        expect.same("the root's block", bench.pointer(1, 0), 17);
        expect.same("lost and found's, behind an indirect one", bench.pointer(2, 0), 26);
    }

    private static void takenBlockIsBlank() {
        expect.sentence("a directory of one block (..) which is all 0 then");
        Bench bench = Bench.withSuper();
        bench.node(5, 1, 0);
        for (int block = 16; block < 20; block++) {
            for (int slot = 0; slot < 4; slot++) {
                bench.entry(block, slot, 5, "e" + slot);
            }
        }
        bench.desk.repair(-1);
        expect.yes("the root's fourth place", bench.isFreeEntry(16, 3));
        expect.same("lost and found's third one", bench.entryAt(17, 2, "#05"), 5);
        expect.yes("its fourth one", bench.isFreeEntry(17, 3));
        expect.same("the block behind", bench.entryAt(18, 0, "e0"), 5);
        expect.same("links", bench.desk.inode(5, 1), 1);
    }

    private static void rootComesFirst() {
        expect.sentence("The root, then lost and found, if not sound, is MADE");
        Bench bench = Bench.formatted();
        bench.make(1, "a", 1);
        bench.node(1, 1, 64, 16);
        bench.node(2, 2, 64, 16);
        bench.desk.repair(-1);
        expect.same("lost and found keeps a block that the root has not", bench.pointer(2, 0), 16);
        expect.same("the root has the next one", bench.pointer(1, 0), 17);
        bench = Bench.formatted();
        bench.node(1, 2, 63, 16);
        bench.node(2, 2, 63, 17);
        bench.node(3, 1, 64, 16);
        bench.desk.repair(-1);
        expect.same("the root has the first free one", bench.pointer(1, 0), 17);
        expect.same("lost and found the next one", bench.pointer(2, 0), 18);
    }

    private static void soundOnesStay() {
        expect.sentence("The root, then lost and found, if not sound, is MADE [and if it is sound, is not]");
        Bench bench = Bench.formatted();
        bench.make(1, "a", 1);
        bench.make(2, "b", 1);
        bench.node(2, 2, 0);
        bench.desk.repair(-1);
        expect.same("the root stays", bench.find(1, "a"), 3);
        expect.same("lost and found is made", bench.find(2, "#04"), 4);
        bench.node(1, 2, 0);
        bench.desk.repair(-1);
        expect.same("the root is made", bench.find(1, "a"), -1);
        expect.same("lost and found stays", bench.find(2, "#04"), 4);
        expect.same("with its block", bench.pointer(2, 0), 17);
    }

    private static void lastBlockIsTaken() {
        expect.sentence("the first one of 16 .. 62 that no inode in use has [the last one of these]");
        Bench bench = Bench.withSuper();
        bench.directory(2, 61);
        bench.bigNode(5, 1, 2816, 16);
        bench.node(6, 1, 0);
        bench.desk.repair(-1);
        expect.same("the root's block", bench.pointer(1, 0), 62);
        expect.same("nothing went for it", bench.desk.inode(5, 2), 2816);
        expect.same("no block is free", bench.freeBlocks(), 0);
        expect.same("what may be put, is", bench.find(2, "#06"), 6);
    }

    private static void greatestNumberGoesFirst() {
        expect.sentence("as long as there is no such block, the inode in use with the greatest number, not the root, is all 0 before that");
        Bench bench = Bench.withSuper();
        bench.bigNode(20, 1, 2944, 16);
        bench.node(9, 1, 0);
        bench.node(25, 1, 0);
        bench.node(31, 2, 64, 62);
        bench.desk.repair(-1);
        expect.same("31 is not sound", bench.desk.inode(31, 0), 0);
        expect.same("25 goes, for nothing", bench.desk.inode(25, 0), 0);
        expect.same("20 makes room", bench.desk.inode(20, 0), 0);
        expect.same("9 stays", bench.find(2, "#09"), 9);
        expect.same("the root", bench.pointer(1, 0), 16);
        expect.same("lost and found", bench.pointer(2, 0), 17);
        bench = Bench.withSuper();
        bench.bigNode(30, 1, 2944, 16);
        bench.node(29, 1, 0);
        bench.node(31, 1, 0);
        bench.desk.repair(-1);
        expect.same("31 goes before 30", bench.desk.inode(31, 0) + bench.desk.inode(30, 0), 0);
        expect.same("29 stays", bench.find(2, "#29"), 29);
    }

    private static void noMoreThanNeededGo() {
        expect.sentence("as long as there is no such block [and no longer]");
        Bench bench = Bench.withSuper();
        bench.bigNode(31, 1, 2944, 16);
        bench.node(30, 1, 0);
        bench.desk.repair(-1);
        expect.same("31 alone goes", bench.desk.inode(31, 0), 0);
        expect.same("30 stays", bench.find(2, "#30"), 30);
        // one block is free for the root; for lost and found 7 has to go, whose first block is the first free one then
        bench = Bench.withSuper();
        bench.bigNode(3, 1, 2752, 18);
        bench.node(7, 1, 128, 17, 16);
        bench.desk.repair(-1);
        expect.same("the root", bench.pointer(1, 0), 62);
        expect.same("lost and found", bench.pointer(2, 0), 16);
        expect.same("7 goes", bench.desk.inode(7, 0), 0);
        expect.same("3 stays", bench.desk.inode(3, 2), 2752);
        expect.same("one block is free", bench.freeBlocks(), 1);
    }

    private static void lostAndFoundMayGo() {
        expect.sentence("the inode in use with the greatest number, not the root, is all 0 before that [lost and found, too]");
        Bench bench = Bench.withSuper();
        bench.bigNode(2, 2, 2944, 16);
        bench.desk.repair(-1);
        expect.same("lost and found makes room for the root", bench.pointer(1, 0), 16);
        expect.same("and is made", bench.pointer(2, 0), 17);
        expect.same("of one block", bench.desk.inode(2, 2), 64);
        expect.same("free blocks", bench.freeBlocks(), 45);
        expect.same("check()", bench.desk.check(), 0);
    }

    private static void lostAndFoundMayStayFree() {
        expect.sentence("if there is none of these, too, it stays free.");
        Bench bench = Bench.withSuper();
        bench.bigNode(1, 2, 2944, 16);
        bench.node(2, 2, 64, 62);
        bench.node(3, 1, 0);
        bench.node(12, 1, 0);
        bench.entry(16, 2, 3, "a");
        bench.desk.repair(-1);
        expect.same("the root keeps its blocks", bench.desk.inode(1, 2), 2944);
        expect.yes("lost and found stays free", bench.isFreeInode(2));
        expect.yes("all others went for it", bench.isFreeInode(3) && bench.isFreeInode(12));
        expect.yes("the third place is free", bench.isFreeEntry(16, 2));
        expect.same("links of the root", bench.desk.inode(1, 1), 2);
        expect.same("free blocks", bench.freeBlocks(), 0);
        expect.same("free inodes", bench.freeInodes(), 30);
        expect.same("the map of inodes", bench.desk.peek(456), 0xc0);
        expect.same("check()", bench.desk.check(), 0);
        expect.same("no block for a directory", bench.make(1, "d", 2), -1);
        expect.same("a file has its entry in the third place", bench.make(1, "f", 1), 3);
        expect.same("that is there", bench.entryAt(16, 2, "f"), 3);
        bench = Bench.withSuper();
        bench.bigNode(1, 2, 2880, 16);
        bench.node(3, 1, 0);
        bench.desk.repair(-1);
        expect.same("a root of a block less leaves one", bench.pointer(2, 0), 62);
        expect.same("and a file", bench.find(2, "#03"), 3);
    }
}
