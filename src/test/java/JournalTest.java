/** The journal, sums, promises 5 (seal) and 6 (commit), and pass 0. */
public final class JournalTest {
    private static final Expect expect = new Expect();

    public static void main(String[] args) {
        higherByteFirst();
        sumsWrapAround();
        sealSupers();
        sealJournal();
        sealInodes();
        sealRefuses();
        commitWritesABlock();
        commitRefuses();
        numbersOfBlocks();
        targetsOfThisRange();
        targetsAreDifferent();
        bytesBehindAreBlank();
        markMustBeRight();
        sumMustBeRight();
        goodJournalIsReplayed();
        everyCopyIsReplayed();
        inodesMayBeReplayed();
        noJournalIsLeft();
        emptyJournalIsNone();
        expect.end();
    }

    /** A formatted disk with a journal of two blocks, bytes 201 and 202, for blocks 62 and 18. */
    private static Bench journalled() {
        Bench bench = Bench.formatted();
        bench.desk.poke(128 + 63, 201);
        bench.desk.poke(192, 202);
        bench.desk.commit(0x3e12_0000_0000_0000L, 2);
        return bench;
    }

    private static void isReplayed(String what, Bench bench) {
        expect.same(what + ": repair(-1)", bench.desk.repair(-1), 3);
        expect.same(what + ": block 18", bench.desk.peek(18 * 64), 202);
        expect.yes(what + ": no journal is left", bench.isBlank(64, 64));
    }

    private static void isDropped(String what, Bench bench) {
        expect.same(what + ": repair(-1)", bench.desk.repair(-1), 1);
        expect.same(what + ": block 18", bench.desk.peek(18 * 64), 0);
        expect.yes(what + ": no journal is left", bench.isBlank(64, 64));
    }

    private static void higherByteFirst() {
        expect.sentence("Numbers of two bytes have the higher one first");
        for (int sum : new int[] {0, 1, 255, 256, 257, 511, 512}) {
            Bench bench = new Bench();
            for (int k = 0; k < 3; k++) {
                bench.desk.poke(k, Math.max(0, Math.min(255, sum - 255 * k)));
                bench.desk.poke(512 + k, Math.max(0, Math.min(255, sum - 255 * k)));
            }
            bench.desk.seal(0);
            bench.desk.seal(3);
            expect.same("higher byte of " + sum, bench.desk.peek(62), sum / 256);
            expect.same("lower byte of " + sum, bench.desk.peek(63), sum % 256);
            expect.same("higher byte of " + sum + " in an inode", bench.desk.peek(526), sum / 256);
            expect.same("lower byte of " + sum + " in an inode", bench.desk.peek(527), sum % 256);
        }
    }

    private static void sumsWrapAround() {
        expect.sentence("the SUM of bytes is theirs modulo 65536.");
        // the mark, n = 5 and the numbers 7 and 18 to 21: 310 + 5 + 7 + 78 = 400
        long targets = 0x1213_1415_0700_0000L;
        for (int sum : new int[] {65534, 65535, 65536, 65537, 65536 + 255, 65536 + 256, 400 + 320 * 255}) {
            Bench bench = Bench.formatted();
            int left = sum - 400;
            for (int p = 128; p < 448; p++) {
                bench.desk.poke(p, Math.min(left, 255));
                left -= Math.min(left, 255);
            }
            bench.desk.commit(targets, 5);
            expect.same("sealed sum of " + sum, bench.pair(126), sum % 65536);
            expect.same("repair(-1)", bench.desk.repair(-1), 5);
            expect.same("it was good: block 18", bench.desk.peek(18 * 64), 255);
        }
        Bench bench = Bench.formatted();
        bench.fill(128, 320, 255);
        bench.desk.commit(targets, 5);
        bench.change(126, 1);
        expect.same("a wrong sum: repair(-1)", bench.desk.repair(-1), 1);
    }

    private static void sealSupers() {
        expect.sentence("The right sum is written: what = 0 of the super in block 0, 1 of that in block 63");
        Bench bench = new Bench();
        bench.fill(0, 64, 255);
        bench.fill(4032, 64, 2);
        expect.yes("seal(0)", bench.desk.seal(0));
        expect.same("sum of 62 bytes 255", bench.pair(62), 62 * 255);
        expect.same("the other super's sum", bench.pair(4094), 2 * 257);
        expect.yes("seal(1)", bench.desk.seal(1));
        expect.same("sum of 62 bytes 2", bench.pair(4094), 124);
        expect.same("the bytes before stay", bench.desk.peek(61), 255);
        expect.same("the byte behind stays", bench.desk.peek(64), 0);
    }

    private static void sealJournal() {
        expect.sentence("2 of the journal (block numbers beyond five count for five)");
        Bench bench = new Bench();
        bench.fill(64, 64, 255);
        bench.fill(128, 384, 255);
        for (int n : new int[] {0, 1, 2, 4, 5, 6, 7, 128, 255}) {
            bench.desk.poke(68, n);
            expect.yes("seal(2)", bench.desk.seal(2));
            int due = 61 * 255 + n + Math.min(n, 5) * 64 * 255;
            expect.same("journal's sum for n = " + n, bench.pair(126), due % 65536);
        }
        expect.same("behind it", bench.desk.peek(128), 255);
    }

    private static void sealInodes() {
        expect.sentence("3 + i of inode i.");
        Bench bench = new Bench();
        bench.fill(512, 512, 255);
        for (int i : new int[] {0, 1, 31}) {
            expect.yes("seal(3 + " + i + ")", bench.desk.seal(3 + i));
            expect.same("sum of inode " + i, bench.pair(Bench.inodePlace(i) + 14), 14 * 255);
        }
        expect.same("sum of inode 2", bench.pair(Bench.inodePlace(2) + 14), 65535);
        expect.same("sum of inode 30", bench.pair(Bench.inodePlace(30) + 14), 65535);
        expect.same("behind the inodes", bench.desk.peek(1024), 0);
        expect.same("before them", bench.desk.peek(511), 0);
    }

    private static void sealRefuses() {
        expect.sentence("False for others.");
        Bench bench = new Bench();
        bench.fill(0, 4096, 3);
        int[] before = bench.snapshot();
        for (int what : new int[] {-1, -3, 35, 36, 255, Integer.MIN_VALUE, Integer.MAX_VALUE}) {
            expect.no("seal(" + what + ")", bench.desk.seal(what));
        }
        expect.unchanged("behind refused seals", bench, before);
        expect.yes("seal(34)", bench.desk.seal(34));
    }

    private static void commitWritesABlock() {
        expect.sentence("for the block numbers that are the n highest bytes of targets, the highest one first; sealed.");
        Bench bench = new Bench();
        for (int n = 1; n <= 5; n++) {
            bench.fill(64, 64, 77);
            bench.fill(128, 384, 4);
            expect.yes("commit of " + n, bench.desk.commit(0xff10_2000_3e07_0809L, n));
            int[] due = {'J', 'R', 'N', 'L', n, 255, 16, 32, 0, 62};
            int sum = n * 64 * 4;
            for (int k = 0; k < 62; k++) {
                int want = k < 5 + n ? due[k] : 0;
                expect.same("commit of " + n + ": byte " + k, bench.desk.peek(64 + k), want);
                sum += want;
            }
            expect.same("commit of " + n + ": sum", bench.pair(126), sum);
            expect.same("commit of " + n + ": its blocks are as they were", bench.desk.peek(128), 4);
        }
    }

    private static void commitRefuses() {
        expect.sentence("False when n is not 1 .. 5.");
        Bench bench = Bench.formatted();
        int[] before = bench.snapshot();
        for (int n : new int[] {0, -1, -5, 6, 7, 8, Integer.MIN_VALUE, Integer.MAX_VALUE}) {
            expect.no("commit of " + n, bench.desk.commit(0x1011121314151617L, n));
        }
        expect.unchanged("behind refused commits", bench, before);
        expect.yes("commit of 1", bench.desk.commit(0, 1));
        expect.yes("commit of 5", bench.desk.commit(0, 5));
    }

    private static void numbersOfBlocks() {
        expect.sentence("It is GOOD when (..) n is 1 .. 5");
        for (int n = 0; n <= 7; n++) {
            Bench bench = Bench.formatted();
            bench.desk.poke(128, 202);
            bench.desk.commit(0x1213_1415_1600_0000L, 5);
            bench.desk.poke(68, n);
            bench.fill(69 + n, 57 - n, 0);
            if (n > 5) {
                bench.bytes(74, 23, 24);
            }
            bench.desk.seal(2);
            bench.desk.repair(-1);
            expect.same("n = " + n + ": block 18", bench.desk.peek(18 * 64), n >= 1 && n <= 5 ? 202 : 0);
            expect.same("n = " + n + ": check()", bench.desk.check(), 0);
        }
        Bench bench = journalled();
        bench.desk.poke(68, 255);
        bench.desk.seal(2);
        isDropped("n = 255", bench);
    }

    private static void targetsOfThisRange() {
        expect.sentence("the numbers are different ones of 7 .. 62. [of 7 .. 62]");
        for (int target : new int[] {0, 1, 6, 7, 8, 15, 16, 62, 63, 64, 128, 255}) {
            for (int at = 0; at < 2; at++) {
                Bench bench = Bench.formatted();
                int source = target < 64 ? target : 0;
                for (int k = 0; k < 64; k++) {
                    bench.desk.poke(128 + 64 * at + k, bench.desk.peek(source * 64 + k));
                }
                bench.desk.poke(128 + 64 * (1 - at), 202);
                bench.desk.commit((long) target << 56 - 8 * at | 18L << 48 + 8 * at, 2);
                bench.desk.repair(-1);
                boolean good = target >= 7 && target <= 62;
                expect.same("number " + target + " at " + at + ": block 18", bench.desk.peek(18 * 64), good ? 202 : 0);
                expect.same("check()", bench.desk.check(), 0);
            }
        }
    }

    private static void targetsAreDifferent() {
        expect.sentence("the numbers are different ones of 7 .. 62. [different]");
        long[] same = {0x1212_0000_0000_0000L, 0x1213_1415_1200_0000L, 0x1314_1512_1200_0000L, 0x3e13_3e12_1400_0000L};
        for (long targets : same) {
            Bench bench = Bench.formatted();
            bench.fill(128, 320, 202);
            bench.desk.commit(targets, (targets >> 40 & 255) == 0 ? 2 : 5);
            isDropped("numbers " + Long.toHexString(targets), bench);
        }
    }

    private static void bytesBehindAreBlank() {
        expect.sentence("bytes 0 up to place 62");
        for (int place = 71; place < 126; place++) {
            Bench bench = journalled();
            bench.desk.poke(place, 1);
            bench.desk.seal(2);
            isDropped("a byte at place " + (place - 64), bench);
        }
        Bench bench = Bench.formatted();
        bench.desk.commit(0x1213_1415_1600_0000L, 5);
        bench.desk.poke(74, 23);
        bench.desk.seal(2);
        isDropped("a sixth number", bench);
    }

    private static void markMustBeRight() {
        expect.sentence("It is GOOD when JRNL (..) are right");
        isReplayed("JRNL", journalled());
        for (int k = 0; k < 4; k++) {
            for (int by = -1; by <= 1; by += 2) {
                Bench bench = journalled();
                bench.change(64 + k, by);
                bench.desk.seal(2);
                isDropped("byte " + k + " wrong", bench);
            }
        }
    }

    private static void sumMustBeRight() {
        expect.sentence("the sum of all 62 before and of all bytes of blocks 2 .. n + 1 (2).");
        for (int[] wrong : new int[][] {{127, 1}, {127, -1}, {126, 1}, {126, -1}, {128, 1}, {191, 1}, {192, 1}, {255, 1}}) {
            Bench bench = journalled();
            bench.change(wrong[0], wrong[1]);
            isDropped("the byte at " + wrong[0] + " changed behind the seal", bench);
        }
        Bench bench = journalled();
        bench.desk.poke(256, 1);
        isReplayed("a byte of the block behind", bench);
    }

    private static void goodJournalIsReplayed() {
        expect.sentence("a good journal is REPLAYED: its blocks 2, 3, .. are copied to the blocks told, in order");
        Bench bench = journalled();
        expect.same("check()", bench.desk.check(), 3);
        expect.same("a check writes nothing", bench.desk.peek(64), 'J');
        isReplayed("a journal of two", bench);
        expect.same("the last byte of block 62", bench.desk.peek(62 * 64 + 63), 201);
        expect.same("its copy stays", bench.desk.peek(192), 202);
        bench = journalled();
        expect.same("repair(1): the journal's block comes first", bench.desk.repair(1), 1);
        expect.yes("it is empty", bench.isBlank(64, 64));
        expect.same("nothing else was written", bench.desk.peek(18 * 64), 0);
        expect.same("nor will be", bench.desk.check(), 0);
    }

    private static void everyCopyIsReplayed() {
        expect.sentence("its blocks 2, 3, .. are copied to the blocks told [1 to 5 of them]");
        for (int n = 1; n <= 5; n++) {
            Bench bench = Bench.formatted();
            for (int k = 0; k < 5; k++) {
                bench.desk.poke(128 + 64 * k + 5, 101 + k);
            }
            bench.desk.commit(0x1214_1316_3e00_0000L, n);
            expect.same("repair(-1)", bench.desk.repair(-1), n + 1);
            int[] targets = {18, 20, 19, 22, 62};
            for (int k = 0; k < 5; k++) {
                expect.same("block " + targets[k] + " of " + n, bench.desk.peek(targets[k] * 64 + 5), k < n ? 101 + k : 0);
            }
        }
    }

    private static void inodesMayBeReplayed() {
        expect.sentence("REPAIR (..) goes over the disk in these PASSES [0 before 1]");
        Bench bench = Bench.formatted();
        bench.make(1, "a", 1);
        for (int k = 0; k < 64; k++) {
            bench.desk.poke(128 + k, bench.desk.peek(512 + k));
            bench.desk.poke(512 + k, 0);
        }
        bench.desk.commit(0x0800_0000_0000_0000L, 1);
        expect.same("repair with the inodes in the journal", bench.desk.repair(-1), 2);
        expect.same("find a", bench.find(1, "a"), 3);
        // block 7 is made anew by the last pass, block 16 by the second one
        bench.fill(128, 192, 9);
        bench.desk.commit(0x0710_1600_0000_0000L, 3);
        bench.desk.repair(-1);
        expect.same("the maps", bench.desk.peek(448), 255);
        expect.same("the root", bench.entryAt(16, 0, "."), 1);
        expect.same("block 22", bench.desk.peek(22 * 64 + 5), 9);
        expect.same("check()", bench.desk.check(), 0);
    }

    private static void noJournalIsLeft() {
        expect.sentence("then block 1 is all 0 (good or not).");
        for (int place : new int[] {64, 68, 100, 126, 127}) {
            Bench bench = Bench.formatted();
            bench.desk.poke(place, 1);
            expect.same("check() with a byte at " + place, bench.desk.check(), 1);
            isDropped("a byte at " + place, bench);
        }
        Bench bench = Bench.formatted();
        bench.fill(64, 64, 255);
        isDropped("a block of 255", bench);
    }

    private static void emptyJournalIsNone() {
        expect.sentence("Empty it is all 0.");
        Bench bench = Bench.formatted();
        expect.yes("the journal of a formatted disk", bench.isBlank(64, 64));
        bench.fill(128, 320, 6);
        expect.same("check(), whatever blocks 2 to 6 hold", bench.desk.check(), 0);
        expect.same("repair(-1)", bench.desk.repair(-1), 0);
        expect.same("they stay", bench.desk.peek(128), 6);
    }
}
