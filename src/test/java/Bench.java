/** A disk to be laid out by hand: nodes and entries are poked where the document has them. */
final class Bench {
    final FsckDesk desk = new FsckDesk();

    /** A formatted disk: the root has block 16, lost and found block 17. */
    static Bench formatted() {
        Bench bench = new Bench();
        bench.desk.format();
        return bench;
    }

    static long name(String text) {
        long packed = 0;
        for (int k = 0; k < text.length(); k++) {
            packed = packed << 8 | text.charAt(k) & 0xff;
        }
        return packed;
    }

    static int inodePlace(int i) {
        return 512 + 16 * i;
    }

    void bytes(int place, int... values) {
        for (int k = 0; k < values.length; k++) {
            desk.poke(place + k, values[k]);
        }
    }

    void text(int place, String text) {
        for (int k = 0; k < text.length(); k++) {
            desk.poke(place + k, text.charAt(k));
        }
    }

    /** A sealed inode with up to five blocks. */
    void node(int i, int kind, int size, int... blocks) {
        int p = inodePlace(i);
        for (int k = 0; k < 16; k++) {
            desk.poke(p + k, 0);
        }
        bytes(p, kind, 0, size / 256, size % 256);
        bytes(p + 4, blocks);
        desk.seal(3 + i);
    }

    /** A sealed inode with its blocks from a first one on; the indirect one, if there is one, lies behind them. */
    void bigNode(int i, int kind, int size, int first) {
        int count = (size + 63) / 64;
        node(i, kind, size);
        int p = inodePlace(i);
        int table = first + count;
        for (int k = 0; k < count; k++) {
            desk.poke(k < 5 ? p + 4 + k : table * 64 + k - 5, first + k);
        }
        if (count > 5) {
            desk.poke(p + 9, table);
            for (int k = count - 5; k < 64; k++) {
                desk.poke(table * 64 + k, 0);
            }
        }
        desk.seal(3 + i);
    }

    void entry(int block, int slot, int inode, String name) {
        int p = block * 64 + slot * 16;
        for (int k = 0; k < 16; k++) {
            desk.poke(p + k, 0);
        }
        bytes(p, inode, name.length());
        text(p + 2, name);
    }

    /** The inode of an entry, if it is there with just that name and nothing behind it; else NONE. */
    int entryAt(int block, int slot, String name) {
        int p = block * 64 + slot * 16;
        boolean there = desk.peek(p + 1) == name.length();
        for (int k = 0; k < 14; k++) {
            there &= desk.peek(p + 2 + k) == (k < name.length() ? name.charAt(k) : 0);
        }
        return there ? desk.peek(p) : FsckDesk.NONE;
    }

    boolean isBlank(int place, int count) {
        for (int k = 0; k < count; k++) {
            if (desk.peek(place + k) != 0) {
                return false;
            }
        }
        return true;
    }

    boolean isFreeEntry(int block, int slot) {
        return isBlank(block * 64 + slot * 16, 16);
    }

    int find(int dir, String name) {
        return desk.find(dir, name(name));
    }

    int make(int dir, String name, int kind) {
        return desk.make(dir, name(name), kind);
    }

    boolean link(int dir, String name, int i) {
        return desk.link(dir, name(name), i);
    }

    boolean unlink(int dir, String name) {
        return desk.unlink(dir, name(name));
    }

    /** A disk's bytes, to see that a refused call changed nothing. */
    int[] snapshot() {
        int[] bytes = new int[4096];
        for (int p = 0; p < 4096; p++) {
            bytes[p] = desk.peek(p);
        }
        return bytes;
    }
}
