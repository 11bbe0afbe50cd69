/** When an entry is valid, and pass 2. */
public final class EntriesTest {
    private static final Expect expect = new Expect();

    public static void main(String[] args) {
        inodesOfEntries();
        lengthsOfNames();
        bytesOfNames();
        bytesBehindNames();
        dotsAreNoNames();
        namesBeforeThatStay();
        namesBeforeThatGo();
        namesOfFixedEntries();
        firstPlaces();
        everyByteOfFixedEntries();
        lostAndFoundsPlace();
        everyPlaceIsLookedAt();
        expect.end();
    }

    /** The root has blocks 16, 18, 19 and the files 3, 4, 5 and 31 in the last one. */
    private static Bench wideRoot() {
        Bench bench = Bench.formatted();
        bench.node(1, 2, 192, 16, 18, 19);
        int[] files = {3, 4, 5, 31};
        for (int slot = 0; slot < 4; slot++) {
            bench.entry(18, slot, 0, "");
            bench.node(files[slot], 1, 0);
            bench.entry(19, slot, files[slot], "f" + slot);
        }
        return bench;
    }

    /** Whether an entry of file 3 in the root's second block, with one of its bytes changed, stays. */
    private static boolean stays(String name, int at, int v) {
        Bench bench = wideRoot();
        bench.entry(18, 1, 3, name);
        bench.desk.poke(18 * 64 + 16 + at, v);
        int inode = bench.desk.peek(18 * 64 + 16);
        int[] before = bench.snapshot();
        bench.desk.repair(-1);
        boolean gone = bench.isFreeEntry(18, 1);
        for (int k = 0; k < 16; k++) {
            int place = 18 * 64 + 16 + k;
            expect.same("byte " + k + " of " + name, bench.desk.peek(place), gone ? 0 : before[place]);
        }
        expect.same("links with " + name, bench.desk.inode(3, 1), gone || inode != 3 ? 1 : 2);
        expect.same("check() with " + name, bench.desk.check(), 0);
        return !gone;
    }

    private static boolean stays(String name) {
        return stays(name, 1, name.length());
    }

    private static void inodesOfEntries() {
        expect.sentence("when it is of an inode 3 .. 31 that is in use");
        for (int i : new int[] {3, 4, 31}) {
            expect.yes("of inode " + i, stays("x", 0, i));
        }
        for (int i : new int[] {0, 1, 2, 6, 30, 32, 33, 35, 128, 255}) {
            expect.no("of inode " + i, stays("x", 0, i));
        }
        Bench bench = wideRoot();
        bench.node(6, 1, 63);
        bench.entry(18, 0, 6, "x");
        bench.desk.repair(-1);
        expect.yes("of an inode that was not sound", bench.isFreeEntry(18, 0));
    }

    private static void lengthsOfNames() {
        expect.sentence("its length is 1 .. 14");
        expect.yes("a length of 1", stays("x"));
        expect.yes("a length of 13", stays("abcdefghijklm"));
        expect.yes("a length of 14", stays("abcdefghijklmn"));
        expect.no("a length of 15", stays("abcdefghijklmn", 1, 15));
        expect.no("a length of 16", stays("abcdefghijklmn", 1, 16));
        expect.no("a length of 255", stays("abcdefghijklmn", 1, 255));
        expect.no("a length of 0", stays(""));
        expect.no("a length of 0 before a name", stays("x", 1, 0));
    }

    private static void bytesOfNames() {
        expect.sentence("no byte of the name 0 or 47");
        for (int at = 2; at < 16; at++) {
            expect.no("0 at " + at, stays("abcdefghijklmn", at, 0));
            expect.no("47 at " + at, stays("abcdefghijklmn", at, 47));
            expect.yes("46 at " + at, stays("abcdefghijklmn", at, 46));
            expect.yes("48 at " + at, stays("abcdefghijklmn", at, 48));
            expect.yes("255 at " + at, stays("abcdefghijklmn", at, 255));
        }
        expect.no("47 alone", stays("/"));
        expect.no("0 alone", stays("\0"));
        expect.yes("1 alone", stays("\1"));
        expect.yes("255 alone", stays("\u00ff"));
    }

    private static void bytesBehindNames() {
        expect.sentence("all bytes behind it 0");
        for (int at = 3; at < 16; at++) {
            expect.no("a byte at " + at, stays("x", at, 1));
        }
        expect.no("a length too small", stays("ab", 1, 1));
        expect.no("the last byte behind a name of 13", stays("abcdefghijklm", 15, 255));
        expect.yes("none behind a name of 13", stays("abcdefghijklm", 15, 0));
    }

    private static void dotsAreNoNames() {
        expect.sentence("the name is not . or ..");
        expect.no("one dot", stays("."));
        expect.no("two dots", stays(".."));
        expect.yes("three dots", stays("..."));
        expect.yes("a dot before", stays(".x"));
        expect.yes("a dot behind", stays("x."));
        expect.yes("two dots before", stays("..x"));
    }

    private static void namesBeforeThatStay() {
        expect.sentence("no entry at a place before that stays has it.");
        Bench bench = wideRoot();
        bench.entry(16, 3, 3, "twice");
        bench.entry(18, 0, 4, "twice");
        bench.entry(18, 1, 3, "twic");
        bench.entry(18, 2, 3, "twice!");
        bench.entry(18, 3, 3, "twicf");
        bench.entry(17, 2, 3, "twice");
        bench.entry(17, 3, 4, "twice");
        bench.desk.repair(-1);
        expect.same("the first one", bench.entryAt(16, 3, "twice"), 3);
        expect.yes("the second one, of another file", bench.isFreeEntry(18, 0));
        expect.same("a part of it", bench.entryAt(18, 1, "twic"), 3);
        expect.same("more than it", bench.entryAt(18, 2, "twice!"), 3);
        expect.same("another last byte", bench.entryAt(18, 3, "twicf"), 3);
        expect.same("in another directory", bench.entryAt(17, 2, "twice"), 3);
        expect.yes("a second one there", bench.isFreeEntry(17, 3));
        bench = wideRoot();
        bench.entry(16, 3, 3, "abcdefghijklmn");
        bench.entry(18, 0, 3, "abcdefghijklmn");
        bench.entry(18, 1, 3, "abcdefghijklmo");
        bench.desk.repair(-1);
        expect.yes("fourteen bytes alike", bench.isFreeEntry(18, 0));
        expect.same("thirteen bytes alike", bench.entryAt(18, 1, "abcdefghijklmo"), 3);
    }

    private static void namesBeforeThatGo() {
        expect.sentence("no entry at a place before that stays has it. [one that goes does not count]");
        Bench bench = wideRoot();
        bench.entry(16, 3, 7, "twice");
        bench.entry(18, 0, 2, "twice");
        bench.entry(18, 1, 4, "twice");
        bench.entry(18, 2, 3, "twice");
        bench.desk.repair(-1);
        expect.yes("of a free inode", bench.isFreeEntry(16, 3));
        expect.yes("of lost and found", bench.isFreeEntry(18, 0));
        expect.same("the first one that stays", bench.entryAt(18, 1, "twice"), 4);
        expect.yes("the one behind it", bench.isFreeEntry(18, 2));
    }

    private static void namesOfFixedEntries() {
        expect.sentence("no entry at a place before that stays has it. [lost+found in the root]");
        Bench bench = wideRoot();
        bench.entry(16, 3, 3, "lost+found");
        bench.entry(18, 0, 3, "lost+foun");
        bench.entry(17, 2, 3, "lost+found");
        bench.desk.repair(-1);
        expect.yes("a second one in the root", bench.isFreeEntry(16, 3));
        expect.same("a part of it", bench.entryAt(18, 0, "lost+foun"), 3);
        expect.same("elsewhere it is a name", bench.entryAt(17, 2, "lost+found"), 3);
    }

    private static void firstPlaces() {
        expect.sentence("the first entry is . of itself and the second one .. of itself");
        Bench bench = wideRoot();
        bench.directory(31, 30, 31);
        bench.entry(16, 0, 3, "kept?");
        bench.entry(16, 1, 3, "..");
        bench.entry(30, 0, 4, "abcdefghijklmn");
        bench.entry(30, 1, 5, "abcdefghijklmn");
        bench.entry(30, 2, 3, "x");
        bench.fill(17 * 64, 32, 255);
        bench.desk.repair(-1);
        expect.same("the first entry of the root", bench.entryAt(16, 0, "."), 1);
        expect.same("the second one", bench.entryAt(16, 1, ".."), 1);
        expect.same("the first one of lost and found", bench.entryAt(17, 0, "."), 2);
        expect.same("the second one", bench.entryAt(17, 1, ".."), 1);
        expect.same("the first one of 31", bench.entryAt(30, 0, "."), 31);
        expect.same("the second one", bench.entryAt(30, 1, ".."), 1);
        expect.same("the third one stays", bench.entryAt(30, 2, "x"), 3);
        expect.yes("the first one of its second block is free", bench.isFreeEntry(31, 0));
        expect.same("links of what was told there", bench.desk.inode(4, 1), 1);
        // what can't be put shows what pass 2 made of it
        bench = Bench.nearlyFull(1);
        bench.entry(17, 2, 3, "a");
        bench.entry(17, 3, 3, "b");
        bench.directory(9, 62);
        bench.desk.repair(-1);
        expect.same("9 can't be put", bench.desk.inode(9, 0), 0);
        expect.same("its .. was of itself", bench.entryAt(62, 1, ".."), 9);
    }

    private static void everyByteOfFixedEntries() {
        expect.sentence("the first entry is . of itself and the second one .. of itself [whatever was there]");
        for (int k = 0; k < 80; k++) {
            // three fixed entries of the root in block 16, two of lost and found in block 17
            int place = k < 48 ? 16 * 64 + k : 17 * 64 + k - 48;
            for (int by : new int[] {1, 46, 255}) {
                Bench bench = Bench.formatted();
                int[] before = bench.snapshot();
                bench.change(place, by);
                expect.same("repair(-1) with another byte at " + place, bench.desk.repair(-1), 1);
                expect.unchanged("behind a repair", bench, before);
            }
        }
    }

    private static void lostAndFoundsPlace() {
        expect.sentence("in the root the third one lost+found of inode 2, if that is in use (whatever was there)");
        for (int[] was : new int[][] {{0, 0}, {3, 1}, {2, 1}, {255, 255}}) {
            Bench bench = wideRoot();
            bench.fill(16 * 64 + 32, 16, 0);
            bench.bytes(16 * 64 + 32, was[0], was[1], 'x');
            bench.entry(17, 2, 3, "third");
            bench.desk.repair(-1);
            expect.same("the third entry of the root", bench.entryAt(16, 2, "lost+found"), 2);
            expect.same("in another directory it is one of its own", bench.entryAt(17, 2, "third"), 3);
            expect.same("links of 3", bench.desk.inode(3, 1), 2);
        }
    }

    private static void everyPlaceIsLookedAt() {
        expect.sentence("and all others that are not valid are all 0.");
        Bench bench = Bench.formatted();
        bench.bigNode(2, 2, 448, 20);
        bench.node(3, 1, 0);
        for (int e = 2; e < 28; e++) {
            bench.entry(20 + e / 4, e % 4, e % 2 == 0 ? 3 : 30, "e" + e);
        }
        bench.desk.poke(16 * 64 + 48 + 15, 1);
        bench.desk.repair(-1);
        for (int e = 2; e < 28; e++) {
            boolean stays = bench.entryAt(20 + e / 4, e % 4, "e" + e) == 3;
            expect.same("entry " + e, stays ? 1 : 0, e % 2 == 0 ? 1 : 0);
            expect.yes("or it is free", stays || bench.isFreeEntry(20 + e / 4, e % 4));
        }
        expect.yes("an entry with nothing but its last byte", bench.isFreeEntry(16, 3));
        expect.same("links of 3", bench.desk.inode(3, 1), 13);
    }
}
