import java.util.Arrays;

/** When an inode is sound: those that are not are all 0 behind pass 1. */
public final class SoundTest {
    private static final Expect expect = new Expect();

    public static void main(String[] args) {
        kinds();
        kindsOfTheFixedOnes();
        sums();
        fourBytes();
        sizeAtMost2944();
        sizesOfDirectories();
        blocksOfASize();
        blocksInRange();
        indirectInRange();
        toldBlocksInRange();
        indirectJustWhenMoreThanFive();
        blocksAreDifferent();
        otherPointersAreBlank();
        restOfTheIndirectBlockIsBlank();
        noBlockOfALesserInode();
        freeInodesAreBlank();
        inodeZeroIsBlank();
        expect.end();
    }

    /** Whether inode 5 is still in use behind a repair. */
    private static boolean survives(Bench bench) {
        bench.desk.seal(8);
        bench.desk.repair(-1);
        expect.same("check() behind a repair", bench.desk.check(), 0);
        boolean inUse = bench.desk.inode(5, 0) != 0;
        expect.yes("in use, or all 0", inUse || bench.isFreeInode(5));
        return inUse;
    }

    /** The same with one of its 16 bytes changed. */
    private static boolean survives(Bench bench, int at, int v) {
        bench.desk.poke(Bench.inodePlace(5) + at, v);
        return survives(bench);
    }

    private static Bench withFile(int size, int... blocks) {
        Bench bench = Bench.formatted();
        bench.node(5, 1, size, blocks);
        return bench;
    }

    private static Bench withDirectory(int size, int... blocks) {
        Bench bench = Bench.formatted();
        bench.node(5, 2, size, blocks);
        return bench;
    }

    /** Its blocks are 20 and those behind it, the indirect one the last. */
    private static Bench withBigFile(int size) {
        Bench bench = Bench.formatted();
        bench.bigNode(5, 1, size, 20);
        return bench;
    }

    private static void kinds() {
        expect.sentence("AN INODE 1 .. 31 IS SOUND when its kind is 1 or 2");
        expect.yes("kind 1", survives(withFile(64, 18)));
        expect.yes("kind 2", survives(withDirectory(64, 18)));
        for (int kind : new int[] {0, 3, 4, 128, 254, 255}) {
            expect.no("kind " + kind, survives(withFile(64, 18), 0, kind));
        }
        for (int i : new int[] {3, 31}) {
            Bench bench = Bench.formatted();
            bench.node(i, 1, 0);
            bench.desk.repair(-1);
            expect.same("kind 1 of inode " + i, bench.desk.inode(i, 0), 1);
        }
    }

    private static void kindsOfTheFixedOnes() {
        expect.sentence("its kind is 1 or 2 (2 for inodes 1 and 2)");
        for (int i = 1; i <= 2; i++) {
            Bench bench = Bench.formatted();
            bench.make(i, "a", 1);
            bench.node(i, 1, 64, 15 + i);
            bench.desk.repair(-1);
            expect.same("kind of inode " + i, bench.desk.inode(i, 0), 2);
            expect.same("its entry went when it was made", bench.find(i, "a"), -1);
            expect.same("the file is put", bench.find(2, "#03"), 3);
        }
    }

    private static void sums() {
        expect.sentence("its sum right");
        for (int[] wrong : new int[][] {{15, 1}, {15, -1}, {14, 1}, {1, 1}}) {
            Bench bench = withFile(64, 18);
            bench.change(Bench.inodePlace(5) + wrong[0], wrong[1]);
            bench.desk.repair(-1);
            expect.yes("byte " + wrong[0] + " changed by " + wrong[1], bench.isFreeInode(5));
        }
        expect.yes("links are in the sum, but may be any", survives(withFile(64, 18), 1, 255));
    }

    private static void fourBytes() {
        expect.sentence("its four bytes 0");
        for (int at = 10; at < 14; at++) {
            expect.no("byte " + at, survives(withFile(64, 18), at, 1));
            expect.no("byte " + at, survives(withFile(0), at, 255));
        }
        expect.yes("all 0", survives(withFile(64, 18), 13, 0));
    }

    private static void sizeAtMost2944() {
        expect.sentence("its size at most 2944");
        Bench bench = Bench.withSuper();
        bench.bigNode(1, 2, 2944, 16);
        bench.desk.repair(-1);
        expect.same("a root of 2944", bench.desk.inode(1, 2), 2944);
        // a sound file that has all blocks makes those with greater numbers go before it, one that isn't does not
        for (int size : new int[] {2881, 2943, 2944, 2945, 3008, 3200, 65535}) {
            bench = Bench.withSuper();
            bench.bigNode(20, 1, 2944, 16);
            bench.bytes(Bench.inodePlace(20) + 2, size / 256, size % 256);
            bench.desk.seal(23);
            bench.node(25, 1, 0);
            bench.desk.repair(-1);
            expect.same("behind a file of " + size, bench.desk.inode(25, 0), size > 2944 ? 1 : 0);
        }
        bench = Bench.formatted();
        bench.bigNode(5, 1, 2816, 18);
        expect.yes("a file that has all that the fixed ones leave", survives(bench));
    }

    private static void sizesOfDirectories() {
        expect.sentence("and above 0 and a multiple of 64 for directories");
        expect.no("0", survives(withDirectory(0)));
        expect.yes("64", survives(withDirectory(64, 20)));
        expect.yes("128", survives(withDirectory(128, 20, 21)));
        expect.yes("320", survives(withDirectory(320, 20, 21, 22, 23, 24)));
        for (int size : new int[] {1, 16, 32, 48, 63}) {
            expect.no("" + size, survives(withDirectory(size, 20)));
            expect.yes("a file of " + size, survives(withFile(size, 20)));
        }
        for (int size : new int[] {65, 96, 127}) {
            expect.no("" + size, survives(withDirectory(size, 20, 21)));
            expect.yes("a file of " + size, survives(withFile(size, 20, 21)));
        }
        expect.yes("a file of 0", survives(withFile(0)));
    }

    private static void blocksOfASize() {
        expect.sentence("The BLOCKS OF an inode with a size s are s / 64, rounded up");
        int[] blocks = {20, 21, 22, 23, 24};
        for (int size : new int[] {0, 1, 63, 64, 65, 127, 128, 129, 192, 193, 256, 257, 319, 320}) {
            int due = (size + 63) / 64;
            for (int count = 0; count <= 5; count++) {
                Bench bench = withFile(size, Arrays.copyOf(blocks, count));
                expect.same(size + " bytes in " + count + " blocks", survives(bench) ? 1 : 0, count == due ? 1 : 0);
                expect.same("free blocks", bench.freeBlocks(), count == due ? 45 - count : 45);
            }
        }
        for (int size : new int[] {321, 384, 385}) {
            int due = (size + 63) / 64;
            Bench bench = withBigFile(size);
            expect.yes(size + " bytes", survives(bench));
            expect.same("free blocks", bench.freeBlocks(), 45 - due - 1);
        }
        Bench bench = withBigFile(384);
        expect.no("too few blocks told", survives(bench, 3, 129));
        bench = withBigFile(385);
        expect.no("too many blocks told", survives(bench, 3, 128));
    }

    /** The root lies in block 40, lost and found in block 41, so that blocks from 16 on are free. */
    private static Bench withFreeBlock16() {
        Bench bench = Bench.withSuper();
        bench.directory(1, 40);
        bench.directory(2, 41);
        return bench;
    }

    private static void blocksInRange() {
        expect.sentence("its blocks (..) are different ones of 16 .. 62 [pointers]");
        for (int block : new int[] {0, 1, 7, 15, 16, 17, 62, 63, 64, 80, 255}) {
            Bench bench = withFreeBlock16();
            bench.node(5, 1, 64, block);
            expect.same("a pointer of " + block, survives(bench) ? 1 : 0, block >= 16 && block <= 62 ? 1 : 0);
            bench = withFreeBlock16();
            bench.node(5, 1, 320, 30, 31, 32, 33, block);
            expect.same("a fifth pointer of " + block, survives(bench) ? 1 : 0, block >= 16 && block <= 62 ? 1 : 0);
        }
    }

    private static void indirectInRange() {
        expect.sentence("and that of the indirect pointer (..) are different ones of 16 .. 62");
        // each of these blocks tells block 35 and nothing else; 15 holds inodes, 0 or 63 is a super that isn't good
        for (int block : new int[] {0, 15, 16, 62, 63}) {
            Bench bench = withFreeBlock16();
            if (block == 0) {
                bench.text(63 * 64, "SFSK");
                bench.desk.seal(1);
            }
            bench.fill(block * 64, 64, 0);
            bench.desk.poke(block * 64, 35);
            bench.node(5, 1, 321, 30, 31, 32, 33, 34);
            boolean survives = survives(bench, 9, block);
            expect.same("an indirect pointer of " + block, survives ? 1 : 0, block >= 16 && block <= 62 ? 1 : 0);
        }
        for (int block : new int[] {64, 99, 128, 255}) {
            Bench bench = withFreeBlock16();
            bench.node(5, 1, 321, 30, 31, 32, 33, 34);
            expect.no("an indirect pointer of " + block, survives(bench, 9, block));
        }
    }

    private static void toldBlocksInRange() {
        expect.sentence("its blocks (..) are different ones of 16 .. 62 [those told by the indirect block]");
        for (int block : new int[] {0, 1, 15, 16, 62, 63, 64, 80, 255}) {
            for (int at = 0; at < 2; at++) {
                Bench bench = withFreeBlock16();
                bench.bigNode(5, 1, 385, 20);
                bench.desk.poke(27 * 64 + at, block);
                boolean inRange = block >= 16 && block <= 62;
                expect.same("block " + block + " told at " + at, survives(bench) ? 1 : 0, inRange ? 1 : 0);
            }
        }
    }

    private static void indirectJustWhenMoreThanFive() {
        expect.sentence("that of the indirect pointer, which is there just when there are more than five");
        expect.yes("320 bytes without", survives(withFile(320, 20, 21, 22, 23, 24), 9, 0));
        expect.no("320 bytes with one", survives(withFile(320, 20, 21, 22, 23, 24), 9, 25));
        expect.no("64 bytes with one", survives(withFile(64, 20), 9, 25));
        expect.no("0 bytes with one", survives(withFile(0), 9, 25));
        expect.yes("321 bytes with one", survives(withBigFile(321), 9, 26));
        expect.no("321 bytes without", survives(withBigFile(321), 9, 0));
    }

    private static void blocksAreDifferent() {
        expect.sentence("are different ones of 16 .. 62 [different]");
        expect.no("the first and the second pointer", survives(withFile(128, 20, 20)));
        expect.no("the fourth and the fifth one", survives(withFile(320, 20, 21, 22, 23, 23)));
        expect.no("the first and the fifth one", survives(withFile(320, 20, 21, 22, 23, 20)));
        for (int pointer = 20; pointer <= 24; pointer++) {
            Bench bench = withBigFile(321);
            bench.fill(pointer * 64, 64, 0);
            bench.desk.poke(pointer * 64, 25);
            expect.no("the indirect one is block " + pointer, survives(bench, 9, pointer));
            bench = withBigFile(321);
            bench.desk.poke(26 * 64, pointer);
            expect.no("it tells block " + pointer, survives(bench));
        }
        Bench bench = withBigFile(321);
        bench.desk.poke(26 * 64, 26);
        expect.no("it tells itself", survives(bench));
        bench = withBigFile(385);
        bench.desk.poke(27 * 64 + 1, 25);
        expect.no("it tells a block twice", survives(bench));
    }

    private static void otherPointersAreBlank() {
        expect.sentence("all its other pointers (..) are 0");
        int[] blocks = {20, 21, 22, 23, 24};
        for (int count = 0; count < 5; count++) {
            for (int k = count; k < 5; k++) {
                Bench bench = withFile(count * 64, Arrays.copyOf(blocks, count));
                expect.no(count + " blocks, pointer " + k, survives(bench, 4 + k, 30));
                bench = withFile(count * 64, Arrays.copyOf(blocks, count));
                expect.no(count + " blocks, pointer " + k + " that is none", survives(bench, 4 + k, 255));
            }
        }
    }

    private static void restOfTheIndirectBlockIsBlank() {
        expect.sentence("all bytes of the indirect block behind those that tell blocks, are 0");
        for (int at : new int[] {1, 2, 40, 62, 63}) {
            Bench bench = withBigFile(321);
            bench.desk.poke(26 * 64 + at, 30);
            expect.no("byte " + at + " behind one", survives(bench));
        }
        Bench bench = withBigFile(385);
        bench.desk.poke(27 * 64 + 2, 30);
        expect.no("byte 2 behind two", survives(bench));
        for (int at : new int[] {41, 63}) {
            bench = Bench.withSuper();
            bench.bigNode(1, 2, 2944, 16);
            bench.desk.poke(62 * 64 + at, 1);
            bench.desk.repair(-1);
            expect.same("byte " + at + " behind all that may be told", bench.desk.inode(1, 2), 64);
        }
    }

    private static void noBlockOfALesserInode() {
        expect.sentence("no sound inode with a lesser number has one of these blocks.");
        Bench bench = Bench.formatted();
        bench.node(5, 1, 64, 20);
        bench.node(6, 1, 128, 21, 20);
        bench.node(7, 1, 64, 21);
        bench.node(8, 1, 64, 17);
        bench.node(9, 1, 64, 16);
        bench.bigNode(10, 1, 321, 30);
        bench.node(11, 1, 64, 36);
        bench.node(12, 1, 64, 35);
        bench.bigNode(13, 1, 321, 40);
        bench.desk.poke(46 * 64, 35);
        bench.bigNode(14, 1, 321, 47);
        bench.desk.poke(Bench.inodePlace(14) + 9, 36);
        bench.desk.seal(17);
        bench.node(31, 1, 64, 47);
        bench.desk.repair(-1);
        int[] kinds = {1, 0, 1, 0, 0, 1, 0, 0, 0, 0};
        for (int i = 5; i < 15; i++) {
            expect.same("kind of inode " + i, bench.desk.inode(i, 0), kinds[i - 5]);
        }
        expect.same("a block that no sound one has", bench.desk.inode(31, 0), 1);
    }

    private static void freeInodesAreBlank() {
        expect.sentence("Inode 0, and free ones, are all 0. [free ones]");
        for (int at = 1; at < 16; at++) {
            for (int i : new int[] {3, 31}) {
                Bench bench = Bench.formatted();
                bench.desk.poke(Bench.inodePlace(i) + at, 1);
                bench.desk.seal(at < 14 ? 3 + i : 0);
                expect.same("byte " + at + " of inode " + i, bench.desk.repair(-1), 1);
                expect.yes("it is all 0", bench.isFreeInode(i));
            }
        }
    }

    private static void inodeZeroIsBlank() {
        expect.sentence("all inodes that are not sound are all 0, inode 0 too.");
        for (int kind = 0; kind <= 2; kind++) {
            Bench bench = Bench.formatted();
            bench.node(0, kind, 64, 20);
            expect.same("inode 0 of kind " + kind, bench.desk.repair(-1), 1);
            expect.yes("it is all 0", bench.isFreeInode(0));
            expect.no("it has no block", bench.isUsedBlock(20));
        }
        Bench bench = Bench.formatted();
        bench.node(0, 1, 64, 20);
        bench.node(3, 1, 64, 20);
        bench.desk.repair(-1);
        expect.same("what it has, another one may have", bench.desk.inode(3, 0), 1);
    }
}
