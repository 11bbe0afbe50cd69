/** Promises 5 (seal), 6 (commit), and pass 0 of 7 and 8. */
public final class JournalTest {
    private static final Expect expect = new Expect();

    public static void main(String[] args) {
        sealSupers();
        sealJournal();
        sealInodes();
        sealNothing();
        commitWritesABlock();
        commitRefuses();
        goodJournalIsReplayed();
        longJournalIsReplayed();
        badJournalsAreDropped();
        journalMayMendInodes();
        expect.end();
    }

    private static int pair(FsckDesk desk, int place) {
        return desk.peek(place) * 256 + desk.peek(place + 1);
    }

    private static void sealSupers() {
        FsckDesk desk = new FsckDesk();
        for (int p = 0; p < 62; p++) {
            desk.poke(p, 255);
            desk.poke(4032 + p, 2);
        }
        desk.poke(62, 9);
        desk.poke(63, 9);
        expect.yes("seal(0)", desk.seal(0));
        expect.same("sum of 62 bytes 255", pair(desk, 62), 62 * 255);
        expect.same("the other super's sum", pair(desk, 4094), 0);
        expect.yes("seal(1)", desk.seal(1));
        expect.same("sum of 62 bytes 2", pair(desk, 4094), 124);
    }

    private static void sealJournal() {
        FsckDesk desk = new FsckDesk();
        for (int p = 64; p < 126; p++) {
            desk.poke(p, 255);
        }
        for (int p = 128; p < 512; p++) {
            desk.poke(p, 255);
        }
        for (int n : new int[] {0, 1, 2, 5, 6, 255}) {
            desk.poke(68, n);
            expect.yes("seal(2)", desk.seal(2));
            int due = 61 * 255 + n + Math.min(n, 5) * 64 * 255;
            expect.same("journal's sum for n = " + n, pair(desk, 126), due % 65536);
        }
    }

    private static void sealInodes() {
        FsckDesk desk = new FsckDesk();
        for (int p = 512; p < 1024; p++) {
            desk.poke(p, 255);
        }
        for (int i : new int[] {0, 1, 31}) {
            expect.yes("seal(3 + " + i + ")", desk.seal(3 + i));
            expect.same("sum of inode " + i, pair(desk, 512 + 16 * i + 14), 14 * 255);
        }
        expect.same("sum of inode 2", pair(desk, 512 + 32 + 14), 65535);
        expect.same("behind the inodes", desk.peek(1024), 0);
    }

    private static void sealNothing() {
        FsckDesk desk = new FsckDesk();
        for (int what : new int[] {-1, 35, 36, Integer.MIN_VALUE, Integer.MAX_VALUE}) {
            expect.no("seal(" + what + ")", desk.seal(what));
        }
        expect.same("nothing written", desk.peek(63), 0);
    }

    private static void commitWritesABlock() {
        FsckDesk desk = new FsckDesk();
        for (int p = 64; p < 128; p++) {
            desk.poke(p, 77);
        }
        desk.poke(128, 250);
        desk.poke(320 + 63, 20);
        desk.poke(384, 100);
        expect.yes("commit of 4", desk.commit(0xff10_2000_3e07_0809L, 4));
        int[] due = {'J', 'R', 'N', 'L', 4, 255, 16, 32, 0, 0, 0};
        int sum = 250 + 20;
        for (int k = 0; k < due.length; k++) {
            expect.same("journal byte " + k, desk.peek(64 + k), due[k]);
            sum += due[k];
        }
        for (int p = 64 + due.length; p < 126; p++) {
            expect.same("peek(" + p + ")", desk.peek(p), 0);
        }
        expect.same("journal's sum", pair(desk, 126), sum);
        expect.yes("commit of 5", desk.commit(0xff10_2000_3e07_0809L, 5));
        expect.same("fifth number", desk.peek(73), 62);
        expect.same("behind the fifth", desk.peek(74), 0);
        expect.same("journal's sum", pair(desk, 126), sum + 1 + 62 + 100);
    }

    private static void commitRefuses() {
        FsckDesk desk = new FsckDesk();
        for (int n : new int[] {0, -1, 6, 8, Integer.MIN_VALUE, Integer.MAX_VALUE}) {
            expect.no("commit of " + n, desk.commit(0x1011121314151617L, n));
        }
        expect.same("nothing written", desk.peek(64), 0);
    }

    /** A formatted disk with a journal of two blocks, bytes 201 and 202, for blocks 62 and 18. */
    private static Bench journalled() {
        Bench bench = Bench.formatted();
        bench.desk.poke(128 + 63, 201);
        bench.desk.poke(192, 202);
        bench.desk.commit(0x3e12_0000_0000_0000L, 2);
        return bench;
    }

    private static void goodJournalIsReplayed() {
        Bench bench = journalled();
        expect.same("check()", bench.desk.check(), 3);
        expect.same("a check writes nothing", bench.desk.peek(64), 'J');
        expect.same("repair(-1)", bench.desk.repair(-1), 3);
        expect.yes("the journal is empty", bench.isBlank(64, 64));
        expect.same("block 62", bench.desk.peek(62 * 64 + 63), 201);
        expect.same("block 18", bench.desk.peek(18 * 64), 202);
        expect.same("its copy stays", bench.desk.peek(192), 202);
        bench = journalled();
        expect.same("repair(1): the journal's block comes first", bench.desk.repair(1), 1);
        expect.yes("it is empty", bench.isBlank(64, 64));
        expect.same("nothing else was written", bench.desk.peek(18 * 64), 0);
        expect.same("check()", bench.desk.check(), 0);
    }

    private static void longJournalIsReplayed() {
        Bench bench = Bench.formatted();
        for (int k = 0; k < 5; k++) {
            bench.desk.poke(128 + 64 * k + 5, 101 + k);
        }
        expect.yes("commit of 5", bench.desk.commit(0x1213_1415_3e00_0000L, 5));
        expect.same("repair(-1)", bench.desk.repair(-1), 6);
        int[] targets = {18, 19, 20, 21, 62};
        for (int k = 0; k < 5; k++) {
            expect.same("block " + targets[k], bench.desk.peek(targets[k] * 64 + 5), 101 + k);
        }
        // block 7 is made anew by the last pass, block 16 by the second one
        bench.desk.commit(0x0710_1600_0000_0000L, 3);
        expect.same("repair(-1) with the maps and the root in the journal", bench.desk.repair(-1), 2);
        expect.same("the third one shows that it was replayed", bench.desk.peek(22 * 64 + 5), 103);
        expect.same("check()", bench.desk.check(), 0);
    }

    private static void badJournalsAreDropped() {
        // mark, n of 0, n of 3 with a second block number behind, a byte behind, a block below 7, the last super, twice the same one
        int[][] spoilt = {{64, 'j'}, {67, 'M'}, {68, 0}, {68, 6}, {68, 1}, {71, 1}, {125, 1}, {69, 6}, {70, 63}, {70, 255}, {70, 62}};
        for (int[] each : spoilt) {
            Bench bench = journalled();
            bench.desk.poke(each[0], each[1]);
            bench.desk.seal(2);
            String what = "journal with " + each[1] + " at " + each[0];
            expect.same(what, bench.desk.repair(-1), 1);
            expect.yes(what + ": is empty", bench.isBlank(64, 64));
            expect.same(what + ": block 18", bench.desk.peek(18 * 64), 0);
        }
        Bench bench = journalled();
        bench.desk.poke(127, bench.desk.peek(127) ^ 1);
        expect.same("a wrong sum", bench.desk.repair(-1), 1);
        bench = journalled();
        bench.desk.poke(200, 1);
        expect.same("a copy changed behind the seal", bench.desk.repair(-1), 1);
        bench = journalled();
        bench.desk.poke(256, 1);
        expect.same("a block that isn't the journal's", bench.desk.repair(-1), 3);
        bench = Bench.formatted();
        bench.desk.poke(100, 1);
        expect.same("no journal at all", bench.desk.repair(-1), 1);
    }

    private static void journalMayMendInodes() {
        Bench bench = Bench.formatted();
        bench.make(1, "a", 1);
        for (int k = 0; k < 64; k++) {
            bench.desk.poke(128 + k, bench.desk.peek(512 + k));
            bench.desk.poke(512 + k, 0);
        }
        bench.desk.commit(0x0800_0000_0000_0000L, 1);
        expect.same("repair with the inodes in the journal", bench.desk.repair(-1), 2);
        expect.same("find a", bench.find(1, "a"), 3);
        expect.same("check()", bench.desk.check(), 0);
    }
}
