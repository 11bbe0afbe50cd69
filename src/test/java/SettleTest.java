/** Passes 4 and 5: links, sums, maps, supers. */
public final class SettleTest {
    private static final Expect expect = new Expect();

    public static void main(String[] args) {
        linksOfFiles();
        linksOfDirectories();
        sumsOfInodes();
        mapsOfAnEmptyDisk();
        mapOfAFullDisk();
        mapOfAllInodes();
        alwaysUsed();
        bytesBehindTheMaps();
        supersAreSet();
        expect.end();
    }

    private static void linksOfFiles() {
        expect.sentence("links: of a file how many entries there are of it");
        // a root of 44 blocks (and an indirect one) has 173 places but for the fixed ones, lost and found has two
        Bench bench = Bench.withSuper();
        bench.bigNode(1, 2, 2816, 16);
        bench.directory(2, 61);
        bench.node(3, 1, 0);
        for (int e = 3; e < 176; e++) {
            bench.entry(16 + e / 4, e % 4, 3, "e" + e);
        }
        bench.entry(61, 3, 3, "e");
        bench.desk.repair(-1);
        expect.same("as many links as there may be", bench.desk.inode(3, 1), 174);
        expect.same("check()", bench.desk.check(), 0);
        expect.yes("one more", bench.link(2, "f", 3));
        expect.same("links", bench.desk.inode(3, 1), 175);
        expect.yes("one less", bench.desk.unlink(2, 'f'));
        expect.same("links", bench.desk.inode(3, 1), 174);
        for (int wrong : new int[] {0, 2, 255}) {
            bench = Bench.formatted();
            bench.make(1, "a", 1);
            bench.desk.poke(Bench.inodePlace(3) + 1, wrong);
            bench.desk.seal(6);
            expect.same("links of " + wrong + " where there is one", bench.desk.repair(-1), 1);
            expect.same("links", bench.desk.inode(3, 1), 1);
        }
    }

    private static void linksOfDirectories() {
        expect.sentence("of a directory 2 and how many entries there are of directories in it (from the third place on).");
        Bench bench = Bench.formatted();
        expect.same("lost and found, empty", bench.desk.inode(2, 1), 2);
        expect.same("the root, with lost and found in it", bench.desk.inode(1, 1), 3);
        for (int k = 0; k < 20; k++) {
            bench.desk.make(2, 'A' + k, k % 2 + 1);
        }
        bench.desk.poke(Bench.inodePlace(2) + 1, 0);
        bench.desk.seal(5);
        bench.desk.repair(-1);
        expect.same("with ten directories and ten files in it", bench.desk.inode(2, 1), 12);
        expect.same("one of these", bench.desk.inode(4, 1), 2);
        expect.same("check()", bench.desk.check(), 0);
    }

    private static void sumsOfInodes() {
        expect.sentence("sums of inodes");
        Bench bench = Bench.formatted();
        bench.node(3, 1, 64, 20);
        bench.desk.repair(-1);
        expect.same("sum with the links that were counted", bench.pair(Bench.inodePlace(3) + 14), 1 + 1 + 64 + 20);
        expect.same("sum of the root", bench.pair(Bench.inodePlace(1) + 14), 2 + 3 + 64 + 16);
        bench.node(4, 1, 320, 62, 61, 60, 59, 58);
        bench.desk.repair(-1);
        expect.same("a sum above 255", bench.pair(Bench.inodePlace(4) + 14), 1 + 1 + 1 + 64 + 300);
        expect.same("sum of a free one", bench.pair(Bench.inodePlace(5) + 14), 0);
    }

    private static void mapsOfAnEmptyDisk() {
        expect.sentence("a bit for each block (8 bytes, the highest bit of a byte first), then for each inode (4 bytes), 1 for used");
        Bench bench = Bench.formatted();
        bench.node(3, 1, 321, 20, 21, 22, 23, 24);
        bench.desk.poke(Bench.inodePlace(3) + 9, 62);
        bench.desk.poke(62 * 64, 40);
        bench.desk.seal(6);
        bench.node(24, 1, 0);
        bench.desk.repair(-1);
        // blocks 16, 17, 20 to 24, 40 and 62, and inodes 0 to 3 and 24
        int[] map = {0xff, 0xff, 0xcf, 0x80, 0, 0x80, 0, 0x03, 0xf0, 0, 0, 0x80};
        for (int k = 0; k < map.length; k++) {
            expect.same("map byte " + k, bench.desk.peek(448 + k), map[k]);
        }
        expect.same("free blocks", bench.freeBlocks(), 38);
        expect.same("free inodes", bench.freeInodes(), 27);
    }

    private static void mapOfAFullDisk() {
        expect.sentence("others when an inode in use (of a kind above 0) has them [all of them]");
        Bench bench = Bench.nearlyFull(0);
        for (int k = 0; k < 8; k++) {
            expect.same("map byte " + k, bench.desk.peek(448 + k), 255);
        }
        expect.same("free blocks", bench.freeBlocks(), 0);
        bench = Bench.nearlyFull(1);
        expect.same("map byte 7 with one free block", bench.desk.peek(455), 0xfd);
        expect.same("free blocks", bench.freeBlocks(), 1);
        bench.unlink(1, "big");
        expect.same("free blocks without the file", bench.freeBlocks(), 45);
    }

    private static void mapOfAllInodes() {
        expect.sentence("others when (..) they are in use [all inodes]");
        Bench bench = Bench.formatted();
        for (int i = 3; i < 32; i++) {
            expect.same("free inodes", bench.freeInodes(), 32 - i);
            bench.desk.make(1, 'A' + i, 1);
        }
        for (int k = 8; k < 12; k++) {
            expect.same("map byte " + k, bench.desk.peek(448 + k), 255);
        }
        expect.same("free inodes", bench.freeInodes(), 0);
    }

    private static void alwaysUsed() {
        expect.sentence("Blocks 0 .. 15 and 63, and inode 0, are always used");
        for (int[] wrong : new int[][] {{448, 127}, {448, 0}, {449, 254}, {455, 0}, {456, 96}}) {
            Bench bench = Bench.formatted();
            int before = bench.desk.peek(wrong[0]);
            bench.desk.poke(wrong[0], wrong[1]);
            expect.same("check() with " + wrong[1] + " at " + wrong[0], bench.desk.check(), 1);
            bench.desk.repair(-1);
            expect.same("behind a repair", bench.desk.peek(wrong[0]), before);
        }
    }

    private static void bytesBehindTheMaps() {
        expect.sentence("52 bytes 0.");
        for (int place = 460; place < 512; place++) {
            Bench bench = Bench.formatted();
            bench.desk.poke(place, 255);
            expect.same("repair(-1) with a byte at " + place, bench.desk.repair(-1), 1);
            expect.same("behind it", bench.desk.peek(place), 0);
        }
    }

    private static void supersAreSet() {
        expect.sentence("free blocks (2), free inodes (2), 54 bytes 0, the sum of all 62 before (2).");
        for (int first = 0; first < 4096; first += 4032) {
            for (int k = 4; k < 62; k++) {
                Bench bench = Bench.formatted();
                int before = bench.desk.peek(first + k);
                bench.desk.poke(first + k, 99);
                bench.desk.seal(first == 0 ? 0 : 1);
                expect.same("repair(-1) with a byte at " + (first + k), bench.desk.repair(-1), 1);
                expect.same("behind it", bench.desk.peek(first + k), before);
                expect.same("sum", bench.pair(first + 62), 385);
            }
        }
    }
}
