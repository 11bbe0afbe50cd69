/** A disk to be laid out by hand: nodes and entries are poked where the document has them. */
final class Bench {
    /** Places and bytes, each of which makes a consistent disk one that is not: supers, journal, maps, inodes. */
    static final int[][] SPOILT = {
        {0, 0}, {63, 0}, {64, 1}, {127, 1}, {448, 0}, {511, 1}, {512, 1}, {1023, 1}, {4032, 0}, {4095, 0}
    };

    final FsckDesk desk = new FsckDesk();

    /** A formatted disk: the root has block 16, lost and found block 17. */
    static Bench formatted() {
        Bench bench = new Bench();
        bench.desk.format();
        return bench;
    }

    /** A disk of bytes 0 but for a good super in block 0. */
    static Bench withSuper() {
        Bench bench = new Bench();
        bench.text(0, "SFSK");
        bench.desk.seal(0);
        return bench;
    }

    /** A consistent disk with the file 3, named f, and the directory 4, named d, in the root. */
    static Bench withFileAndDirectory() {
        Bench bench = formatted();
        bench.make(1, "f", 1);
        bench.make(1, "d", 2);
        return bench;
    }

    /** A consistent disk with a file, inode 3, named big in the full block of the root; so many blocks are free. */
    static Bench nearlyFull(int free) {
        Bench bench = formatted();
        bench.bigNode(3, 1, (44 - free) * 64, 18);
        bench.entry(16, 3, 3, "big");
        bench.desk.repair(-1);
        return bench;
    }

    static long name(String text) {
        long packed = 0;
        for (int k = 0; k < text.length(); k++) {
            packed = packed << 8 | text.charAt(k) & 0xff;
        }
        return packed;
    }

    static int inodePlace(int i) {
        return 512 + 16 * i;
    }

    void bytes(int place, int... values) {
        for (int k = 0; k < values.length; k++) {
            desk.poke(place + k, values[k]);
        }
    }

    void text(int place, String text) {
        for (int k = 0; k < text.length(); k++) {
            desk.poke(place + k, text.charAt(k));
        }
    }

    void fill(int place, int count, int v) {
        for (int k = 0; k < count; k++) {
            desk.poke(place + k, v);
        }
    }

    void change(int place, int by) {
        desk.poke(place, desk.peek(place) + by & 255);
    }

    /** A sealed inode with up to five blocks. */
    void node(int i, int kind, int size, int... blocks) {
        int p = inodePlace(i);
        fill(p, 16, 0);
        bytes(p, kind, 0, size / 256, size % 256);
        bytes(p + 4, blocks);
        desk.seal(3 + i);
    }

    /** A sealed inode with its blocks from a first one on; the indirect one, if there is one, lies behind them. */
    void bigNode(int i, int kind, int size, int first) {
        int count = (size + 63) / 64;
        node(i, kind, size);
        int p = inodePlace(i);
        int table = first + count;
        for (int k = 0; k < count; k++) {
            desk.poke(k < 5 ? p + 4 + k : table * 64 + k - 5, first + k);
        }
        if (count > 5) {
            desk.poke(p + 9, table);
            fill(table * 64 + count - 5, 64 - (count - 5), 0);
        }
        desk.seal(3 + i);
    }

    /** A sealed directory without entries of its own. */
    void directory(int i, int... blocks) {
        node(i, 2, blocks.length * 64, blocks);
        for (int block : blocks) {
            fill(block * 64, 64, 0);
        }
    }

    void entry(int block, int slot, int inode, String name) {
        int p = block * 64 + slot * 16;
        fill(p, 16, 0);
        bytes(p, inode, name.length());
        text(p + 2, name);
    }

    /** The inode of an entry, if it is there with just that name and nothing behind it; else NONE. */
    int entryAt(int block, int slot, String name) {
        int p = block * 64 + slot * 16;
        boolean there = desk.peek(p + 1) == name.length();
        for (int k = 0; k < 14; k++) {
            there &= desk.peek(p + 2 + k) == (k < name.length() ? name.charAt(k) : 0);
        }
        return there ? desk.peek(p) : FsckDesk.NONE;
    }

    boolean isBlank(int place, int count) {
        for (int k = 0; k < count; k++) {
            if (desk.peek(place + k) != 0) {
                return false;
            }
        }
        return true;
    }

    boolean isFreeEntry(int block, int slot) {
        return isBlank(block * 64 + slot * 16, 16);
    }

    boolean isFreeInode(int i) {
        return isBlank(inodePlace(i), 16);
    }

    int pointer(int i, int k) {
        return desk.peek(inodePlace(i) + 4 + k);
    }

    int indirect(int i) {
        return desk.peek(inodePlace(i) + 9);
    }

    int pair(int place) {
        return desk.peek(place) * 256 + desk.peek(place + 1);
    }

    int freeBlocks() {
        return pair(4);
    }

    int freeInodes() {
        return pair(6);
    }

    boolean isUsedBlock(int block) {
        return (desk.peek(448 + block / 8) >> 7 - block % 8 & 1) != 0;
    }

    int find(int dir, String name) {
        return desk.find(dir, name(name));
    }

    int make(int dir, String name, int kind) {
        return desk.make(dir, name(name), kind);
    }

    boolean link(int dir, String name, int i) {
        return desk.link(dir, name(name), i);
    }

    boolean unlink(int dir, String name) {
        return desk.unlink(dir, name(name));
    }

    /** A disk's bytes, to see that a refused call changed nothing. */
    int[] snapshot() {
        int[] bytes = new int[4096];
        for (int p = 0; p < 4096; p++) {
            bytes[p] = desk.peek(p);
        }
        return bytes;
    }
}
