import java.util.Arrays;

/**
 * A disk of a small file system with a journal, what repairs it, and its own writer and reader.
 *
 * Whatever changes more than single bytes works on a second image first and reaches the disk only
 * when it is whole, so that a refused call changes nothing.
 */
public final class FsckDesk {
    public static final int NONE = -1;

    private static final int BLOCKS = 64;
    private static final int BLOCK_SIZE = 64;
    private static final int DISK_SIZE = 4096;

    private static final int FIRST_SUPER = 0;
    private static final int LAST_SUPER = 63;
    private static final int MAPS_BLOCK = 7;
    private static final int FIRST_DATA = 16;
    private static final int LAST_DATA = 62;
    private static final int DATA_BLOCKS = 47;
    /** Where the sum of a super or of the journal lies in its block. */
    private static final int BLOCK_SUM = 62;

    private static final int INODES = 32;
    private static final int INODE_SIZE = 16;
    private static final int INODE_TABLE = 512;
    private static final int INODE_SUM = 14;
    private static final int POINTER = 4;
    private static final int POINTERS = 5;
    private static final int INDIRECT = 9;
    private static final int MOST_BLOCKS = 46;
    private static final int MOST_SIZE = 2944;

    private static final int FREE = 0;
    private static final int FILE = 1;
    private static final int DIRECTORY = 2;

    private static final int ROOT = 1;
    private static final int LOST_AND_FOUND = 2;
    private static final int FIRST_OTHER = 3;

    private static final int ENTRY_SIZE = 16;
    private static final int MOST_ENTRIES = 184;
    private static final int THIRD_PLACE = 2;
    private static final int NAME_SIZE = 14;
    private static final int DOT = 46;
    private static final int SLASH = 47;

    private final Image disk;
    private final Inodes diskInodes;
    private final Directories diskDirectories;
    private final Repairer repairer;
    private final Writer writer;
    private final Name wanted;

    public FsckDesk() {
        Image kept = new Image();
        Inodes keptInodes = new Inodes(kept);
        Image planned = new Image();
        Inodes plannedInodes = new Inodes(planned);
        Directories plannedDirectories = new Directories(planned, plannedInodes);
        disk = kept;
        diskInodes = keptInodes;
        diskDirectories = new Directories(kept, keptInodes);
        repairer = new Repairer(kept, planned, plannedInodes, plannedDirectories);
        writer = new Writer(planned, plannedInodes, plannedDirectories);
        wanted = new Name();
    }

    public int format() {
        disk.wipe(0, DISK_SIZE);
        Super.write(disk, FIRST_SUPER, 0, 0);
        repairer.plan();
        return repairer.writeBlocks(BLOCKS);
    }

    public boolean poke(int place, int v) {
        if (!isPlace(place) || !isByte(v)) {
            return false;
        }
        disk.set(place, v);
        return true;
    }

    public int peek(int place) {
        return isPlace(place) ? disk.at(place) : NONE;
    }

    public boolean seal(int what) {
        if (what < 0 || what >= 3 + INODES) {
            return false;
        }
        if (what == 0) {
            Super.writeSum(disk, FIRST_SUPER);
        } else if (what == 1) {
            Super.writeSum(disk, LAST_SUPER);
        } else if (what == 2) {
            Journal.writeSum(disk);
        } else {
            diskInodes.writeSum(what - 3);
        }
        return true;
    }

    public boolean commit(long targets, int n) {
        if (n < 1 || n > Journal.MOST) {
            return false;
        }
        Journal.write(disk, targets, n);
        return true;
    }

    public int check() {
        return repairer.plan();
    }

    public int repair(int crash) {
        if (crash < NONE || crash > BLOCKS || repairer.plan() == NONE) {
            return NONE;
        }
        return repairer.writeBlocks(crash == NONE ? BLOCKS : crash);
    }

    public int inode(int i, int what) {
        if (!Inodes.isNumber(i)) {
            return NONE;
        }
        switch (what) {
            case 0:
                return diskInodes.kind(i);
            case 1:
                return diskInodes.links(i);
            case 2:
                return diskInodes.size(i);
            default:
                return NONE;
        }
    }

    public int read(int i, int k) {
        if (k < 0 || k >= diskInodes.size(i)) {
            return NONE;
        }
        int place = diskInodes.contentPlace(i, k);
        return place == NONE ? NONE : disk.at(place);
    }

    public int find(int i, long name) {
        wanted.unpack(name);
        int place = diskDirectories.seek(i, wanted);
        return place == NONE ? NONE : disk.at(place);
    }

    public int make(int dir, long name, int kind) {
        if (kind != FILE && kind != DIRECTORY || repairer.plan() != 0) {
            return NONE;
        }
        wanted.unpack(name);
        int made = writer.create(dir, wanted, kind);
        if (made != NONE) {
            repairer.keepPlan();
        }
        return made;
    }

    public boolean append(int i, int b) {
        boolean done = isByte(b) && repairer.plan() == 0 && writer.lengthen(i, b);
        if (done) {
            repairer.keepPlan();
        }
        return done;
    }

    public boolean link(int dir, long name, int i) {
        wanted.unpack(name);
        boolean done = repairer.plan() == 0 && writer.addEntry(dir, wanted, i);
        if (done) {
            repairer.keepPlan();
        }
        return done;
    }

    public boolean unlink(int dir, long name) {
        wanted.unpack(name);
        boolean done = repairer.plan() == 0 && writer.removeEntry(dir, wanted);
        if (done) {
            repairer.keepPlan();
        }
        return done;
    }

    private static boolean isPlace(int place) {
        return place >= 0 && place < DISK_SIZE;
    }

    private static boolean isByte(int v) {
        return v >= 0 && v <= 255;
    }

    private static boolean isDataBlock(int block) {
        return block >= FIRST_DATA && block <= LAST_DATA;
    }

    /** The bytes of a disk; a place outside reads as 0 and takes nothing. */
    private static final class Image {
        private final int[] bytes = new int[DISK_SIZE];

        int at(int place) {
            return place >= 0 && place < DISK_SIZE ? bytes[place] : 0;
        }

        void set(int place, int v) {
            if (place >= 0 && place < DISK_SIZE) {
                bytes[place] = v & 255;
            }
        }

        int pairAt(int place) {
            return place >= 0 && place < DISK_SIZE - 1 ? bytes[place] * 256 + bytes[place + 1] : 0;
        }

        void setPair(int place, int v) {
            if (place >= 0 && place < DISK_SIZE - 1) {
                bytes[place] = v >> 8 & 255;
                bytes[place + 1] = v & 255;
            }
        }

        boolean hasText(int place, String text) {
            for (int k = 0; k < text.length(); k++) {
                if (at(place + k) != text.charAt(k)) {
                    return false;
                }
            }
            return true;
        }

        void setText(int place, String text) {
            for (int k = 0; k < text.length(); k++) {
                set(place + k, text.charAt(k));
            }
        }

        void wipe(int place, int count) {
            if (isRange(place, count)) {
                Arrays.fill(bytes, place, place + count, 0);
            }
        }

        boolean isBlank(int place, int count) {
            if (!isRange(place, count)) {
                return true;
            }
            for (int k = place; k < place + count; k++) {
                if (bytes[k] != 0) {
                    return false;
                }
            }
            return true;
        }

        int sum(int place, int count) {
            int sum = 0;
            if (isRange(place, count)) {
                for (int k = place; k < place + count; k++) {
                    sum += bytes[k];
                }
            }
            return sum & 65535;
        }

        private static boolean isRange(int place, int count) {
            return place >= 0 && place <= DISK_SIZE && count >= 0 && count <= DISK_SIZE - place;
        }

        void copyBlock(int source, Image from, int target) {
            if (source >= 0 && source < BLOCKS && target >= 0 && target < BLOCKS) {
                System.arraycopy(from.bytes, source * BLOCK_SIZE, bytes, target * BLOCK_SIZE, BLOCK_SIZE);
            }
        }

        void copyAll(Image from) {
            System.arraycopy(from.bytes, 0, bytes, 0, DISK_SIZE);
        }

        boolean sameBlock(int block, Image other) {
            if (block < 0 || block >= BLOCKS) {
                return true;
            }
            int first = block * BLOCK_SIZE;
            for (int k = first; k < first + BLOCK_SIZE; k++) {
                if (bytes[k] != other.bytes[k]) {
                    return false;
                }
            }
            return true;
        }
    }

    private static final class Super {
        private static final String MARK = "SFSK";

        static boolean isGood(Image image, int block) {
            int place = block * BLOCK_SIZE;
            return image.hasText(place, MARK)
                && image.pairAt(place + BLOCK_SUM) == image.sum(place, BLOCK_SUM);
        }

        static void write(Image image, int block, int freeBlocks, int freeInodes) {
            int place = block * BLOCK_SIZE;
            image.wipe(place, BLOCK_SIZE);
            image.setText(place, MARK);
            image.setPair(place + 4, freeBlocks);
            image.setPair(place + 6, freeInodes);
            writeSum(image, block);
        }

        static void writeSum(Image image, int block) {
            int place = block * BLOCK_SIZE;
            image.setPair(place + BLOCK_SUM, image.sum(place, BLOCK_SUM));
        }
    }

    private static final class Journal {
        private static final String MARK = "JRNL";
        private static final int PLACE = 64;
        private static final int COUNT = 68;
        private static final int TARGETS = 69;
        private static final int SUM = 126;
        private static final int FIRST_COPY = 2;
        private static final int MOST = 5;

        static void write(Image image, long targets, int n) {
            image.wipe(PLACE, BLOCK_SIZE);
            image.setText(PLACE, MARK);
            image.set(COUNT, n);
            for (int k = 0; k < n && k < MOST; k++) {
                image.set(TARGETS + k, (int) (targets >>> (56 - 8 * k)) & 255);
            }
            writeSum(image);
        }

        static void writeSum(Image image) {
            image.setPair(SUM, rightSum(image));
        }

        /** Copies what a good journal holds to its targets; none is left behind, good or not. */
        static void replay(Image image) {
            if (isGood(image)) {
                int n = image.at(COUNT);
                for (int k = 0; k < n && k < MOST; k++) {
                    image.copyBlock(FIRST_COPY + k, image, image.at(TARGETS + k));
                }
            }
            image.wipe(PLACE, BLOCK_SIZE);
        }

        private static boolean isGood(Image image) {
            int n = image.at(COUNT);
            return image.hasText(PLACE, MARK)
                && n >= 1 && n <= MOST
                && image.isBlank(TARGETS + n, SUM - TARGETS - n)
                && image.pairAt(SUM) == rightSum(image)
                && hasGoodTargets(image, n);
        }

        private static boolean hasGoodTargets(Image image, int n) {
            long seen = 0;
            for (int k = 0; k < n && k < MOST; k++) {
                int block = image.at(TARGETS + k);
                if (block < MAPS_BLOCK || block > LAST_DATA || (seen >> block & 1) != 0) {
                    return false;
                }
                seen |= 1L << block;
            }
            return true;
        }

        private static int rightSum(Image image) {
            int n = Math.min(image.at(COUNT), MOST);
            int copies = image.sum(FIRST_COPY * BLOCK_SIZE, n * BLOCK_SIZE);
            return image.sum(PLACE, BLOCK_SUM) + copies & 65535;
        }
    }

    /** The inodes of an image, and which blocks those in use have. */
    private static final class Inodes {
        /** The bit of block 0, which no inode can have: blocks that can't be told stand for it. */
        private static final long BROKEN = 1;

        private final Image image;
        /** A bit for each block that an inode in use has; right from the pass over the inodes on. */
        private long taken;

        Inodes(Image image) {
            this.image = image;
        }

        static boolean isNumber(int i) {
            return i >= 0 && i < INODES;
        }

        static int placeOf(int i) {
            return INODE_TABLE + i * INODE_SIZE;
        }

        int kind(int i) {
            return isNumber(i) ? image.at(placeOf(i)) : FREE;
        }

        int links(int i) {
            return isNumber(i) ? image.at(placeOf(i) + 1) : 0;
        }

        int size(int i) {
            return isNumber(i) ? image.pairAt(placeOf(i) + 2) : 0;
        }

        void setLinks(int i, int links) {
            image.set(placeOf(i) + 1, links);
        }

        void setSize(int i, int size) {
            image.setPair(placeOf(i) + 2, size);
        }

        int rightSum(int i) {
            return image.sum(placeOf(i), INODE_SUM);
        }

        void writeSum(int i) {
            image.setPair(placeOf(i) + INODE_SUM, rightSum(i));
        }

        int blockCount(int i) {
            return (size(i) + BLOCK_SIZE - 1) / BLOCK_SIZE;
        }

        /** Where byte k of the contents lies on the disk; NONE when the pointers don't lead there. */
        int contentPlace(int i, int k) {
            int index = k / BLOCK_SIZE;
            if (!isNumber(i) || k < 0 || index >= MOST_BLOCKS) {
                return NONE;
            }
            int pointer = placeOf(i) + POINTER + index;
            if (index >= POINTERS) {
                int indirect = image.at(placeOf(i) + INDIRECT);
                if (!isDataBlock(indirect)) {
                    return NONE;
                }
                pointer = indirect * BLOCK_SIZE + index - POINTERS;
            }
            int block = image.at(pointer);
            return isDataBlock(block) ? block * BLOCK_SIZE + k % BLOCK_SIZE : NONE;
        }

        /** The blocks of an inode and its indirect one as bits, with BROKEN if they aren't different data blocks. */
        long blocksOf(int i) {
            int count = blockCount(i);
            long blocks = 0;
            for (int k = 0; k < count && k < MOST_BLOCKS; k++) {
                int place = contentPlace(i, k * BLOCK_SIZE);
                blocks = withBlock(blocks, place == NONE ? 0 : place / BLOCK_SIZE);
            }
            if (count > POINTERS) {
                blocks = withBlock(blocks, image.at(placeOf(i) + INDIRECT));
            }
            return blocks;
        }

        private static long withBlock(long blocks, int block) {
            boolean fits = isDataBlock(block) && (blocks >> block & 1) == 0;
            return fits ? blocks | 1L << block : blocks | BROKEN;
        }

        long taken() {
            return taken;
        }

        void forgetTaken() {
            taken = 0;
        }

        /** Takes the blocks of an inode for it; false when it can't have them, or another has one. */
        boolean takeBlocks(int i) {
            long blocks = blocksOf(i);
            if ((blocks & (taken | BROKEN)) != 0) {
                return false;
            }
            taken |= blocks;
            return true;
        }

        int firstFree() {
            for (int i = FIRST_OTHER; i < INODES; i++) {
                if (kind(i) == FREE) {
                    return i;
                }
            }
            return NONE;
        }

        boolean hasFreeBlock() {
            return Long.bitCount(taken) < DATA_BLOCKS;
        }

        /** Takes the first block that no inode in use has, and wipes it; NONE when there is none. */
        private int takeFreeBlock() {
            for (int block = FIRST_DATA; block <= LAST_DATA; block++) {
                if ((taken >> block & 1) == 0) {
                    taken |= 1L << block;
                    image.wipe(block * BLOCK_SIZE, BLOCK_SIZE);
                    return block;
                }
            }
            return NONE;
        }

        /** A free inode, which is all 0, is in use then. */
        void begin(int i, int kind) {
            image.set(placeOf(i), kind);
        }

        /** Gives an inode one block more at its end; its size is left to the caller. NONE when it can't have one. */
        int addBlock(int i) {
            int count = blockCount(i);
            int needed = count == POINTERS ? 2 : 1;
            if (count >= MOST_BLOCKS || DATA_BLOCKS - Long.bitCount(taken) < needed) {
                return NONE;
            }
            int block = takeFreeBlock();
            if (count < POINTERS) {
                image.set(placeOf(i) + POINTER + count, block);
                return block;
            }
            if (count == POINTERS) {
                image.set(placeOf(i) + INDIRECT, takeFreeBlock());
            }
            int indirect = image.at(placeOf(i) + INDIRECT);
            image.set(indirect * BLOCK_SIZE + count - POINTERS, block);
            return block;
        }

        /** Frees an inode in use and its blocks, whose bytes stay. */
        void erase(int i) {
            taken &= ~blocksOf(i);
            wipe(i);
        }

        void wipe(int i) {
            image.wipe(placeOf(i), INODE_SIZE);
        }
    }

    /** A name of at most 14 bytes, filled again and again. */
    private static final class Name {
        private final int[] bytes = new int[NAME_SIZE];
        private int length;

        int length() {
            return length;
        }

        int at(int k) {
            return k >= 0 && k < length && k < NAME_SIZE ? bytes[k] : 0;
        }

        private void add(int v) {
            if (length >= 0 && length < NAME_SIZE) {
                bytes[length] = v;
                length++;
            }
        }

        void spell(String text) {
            length = 0;
            for (int k = 0; k < text.length(); k++) {
                add(text.charAt(k));
            }
        }

        void unpack(long packed) {
            length = 0;
            for (int shift = 56; shift >= 0; shift -= 8) {
                int v = (int) (packed >>> shift) & 255;
                if (v != 0 || length > 0) {
                    add(v);
                }
            }
        }

        void load(Image image, int place, int count) {
            length = 0;
            for (int k = 0; k < count && k < NAME_SIZE; k++) {
                add(image.at(place + k));
            }
        }

        void number(int marks, int i) {
            length = 0;
            for (int k = 0; k < marks; k++) {
                add('#');
            }
            add('0' + i / 10);
            add('0' + i % 10);
        }

        /** Whether an entry that isn't one of the fixed ones may have it; dots alone are none, one or two of them. */
        boolean isAllowed() {
            int dots = 0;
            for (int k = 0; k < length; k++) {
                int v = at(k);
                if (v == 0 || v == SLASH) {
                    return false;
                }
                if (v == DOT) {
                    dots++;
                }
            }
            return length > 2 || dots < length;
        }
    }

    /** The inodes of an image read as directories. */
    private static final class Directories {
        private final Image image;
        private final Inodes inodes;
        private final Name name;

        Directories(Image image, Inodes inodes) {
            this.image = image;
            this.inodes = inodes;
            this.name = new Name();
        }

        int entryCount(int dir) {
            return Math.min(inodes.size(dir) / ENTRY_SIZE, MOST_ENTRIES);
        }

        int entryPlace(int dir, int entry) {
            return inodes.contentPlace(dir, entry * ENTRY_SIZE);
        }

        /** The place of the first entry with a name, from the third one on. */
        int seek(int dir, Name wanted) {
            if (wanted.length() == 0) {
                return NONE;
            }
            int count = entryCount(dir);
            for (int e = THIRD_PLACE; e < count; e++) {
                int place = entryPlace(dir, e);
                if (place != NONE && isNamed(place, wanted)) {
                    return place;
                }
            }
            return NONE;
        }

        private boolean isNamed(int place, Name wanted) {
            int length = wanted.length();
            if (image.at(place + 1) != length) {
                return false;
            }
            for (int k = 0; k < length; k++) {
                if (image.at(place + 2 + k) != wanted.at(k)) {
                    return false;
                }
            }
            return true;
        }

        void writeEntry(int place, int i, Name given) {
            image.wipe(place, ENTRY_SIZE);
            image.set(place, i);
            image.set(place + 1, given.length());
            for (int k = 0; k < given.length(); k++) {
                image.set(place + 2 + k, given.at(k));
            }
        }

        void wipeEntry(int place) {
            image.wipe(place, ENTRY_SIZE);
        }

        void writeDots(int dir, int parent) {
            name.spell(".");
            writeEntry(entryPlace(dir, 0), dir, name);
            name.spell("..");
            writeEntry(entryPlace(dir, 1), parent, name);
        }

        /** A file has no parent: nothing happens to it. */
        void setParent(int i, int parent) {
            if (inodes.kind(i) == DIRECTORY) {
                image.set(inodes.contentPlace(i, ENTRY_SIZE), parent);
            }
        }

        /** Makes an inode without blocks a directory of one block; false when there is none for it. */
        boolean begin(int dir, int parent) {
            inodes.begin(dir, DIRECTORY);
            if (inodes.addBlock(dir) == NONE) {
                inodes.wipe(dir);
                return false;
            }
            inodes.setSize(dir, BLOCK_SIZE);
            writeDots(dir, parent);
            return true;
        }

        /** The first free place of a directory, which gets a block more if there is none. */
        int roomIn(int dir) {
            int count = entryCount(dir);
            for (int e = THIRD_PLACE; e < count; e++) {
                int place = entryPlace(dir, e);
                if (image.at(place) == 0) {
                    return place;
                }
            }
            int block = inodes.addBlock(dir);
            if (block == NONE) {
                return NONE;
            }
            inodes.setSize(dir, inodes.size(dir) + BLOCK_SIZE);
            return block * BLOCK_SIZE;
        }

        boolean isEmpty(int dir) {
            int count = entryCount(dir);
            for (int e = THIRD_PLACE; e < count; e++) {
                if (image.at(entryPlace(dir, e)) != 0) {
                    return false;
                }
            }
            return true;
        }

        /** Writes the fixed entries of a directory and wipes what isn't valid behind them. */
        void tidy(int dir) {
            writeDots(dir, dir);
            int first = THIRD_PLACE;
            if (dir == ROOT && inodes.kind(LOST_AND_FOUND) != FREE) {
                name.spell("lost+found");
                writeEntry(entryPlace(ROOT, THIRD_PLACE), LOST_AND_FOUND, name);
                first++;
            }
            int count = entryCount(dir);
            for (int e = first; e < count; e++) {
                int place = entryPlace(dir, e);
                if (!isValid(dir, place)) {
                    wipeEntry(place);
                }
            }
        }

        /** The entries before it are tidy already: whatever has its name there stays. */
        private boolean isValid(int dir, int place) {
            int i = image.at(place);
            int length = image.at(place + 1);
            if (i < FIRST_OTHER || inodes.kind(i) == FREE || length < 1 || length > NAME_SIZE) {
                return false;
            }
            name.load(image, place + 2, length);
            return image.isBlank(place + 2 + length, NAME_SIZE - length)
                && name.isAllowed()
                && seek(dir, name) == place;
        }

        void wipeEntriesOf(int i) {
            for (int dir = ROOT; dir < INODES; dir++) {
                int count = inodes.kind(dir) == DIRECTORY ? entryCount(dir) : 0;
                for (int e = THIRD_PLACE; e < count; e++) {
                    int place = entryPlace(dir, e);
                    if (image.at(place) == i) {
                        wipeEntry(place);
                    }
                }
            }
        }

        void countLinks() {
            for (int i = ROOT; i < INODES; i++) {
                inodes.setLinks(i, inodes.kind(i) == DIRECTORY ? 2 : 0);
            }
            for (int dir = ROOT; dir < INODES; dir++) {
                int count = inodes.kind(dir) == DIRECTORY ? entryCount(dir) : 0;
                for (int e = THIRD_PLACE; e < count; e++) {
                    countLink(dir, image.at(entryPlace(dir, e)));
                }
            }
        }

        private void countLink(int dir, int i) {
            int kind = inodes.kind(i);
            if (kind != FREE) {
                int counted = kind == DIRECTORY ? dir : i;
                inodes.setLinks(counted, inodes.links(counted) + 1);
            }
        }
    }

    /** Pass 1: which inodes are sound, and the two directories that must be there. */
    private static final class InodePass {
        private final Image image;
        private final Inodes inodes;
        private final Directories directories;

        InodePass(Image image, Inodes inodes, Directories directories) {
            this.image = image;
            this.inodes = inodes;
            this.directories = directories;
        }

        void keepSound() {
            inodes.forgetTaken();
            inodes.wipe(0);
            for (int i = ROOT; i < INODES; i++) {
                boolean sound = hasSoundHead(i) && hasSoundSize(i) && hasBlankRest(i) && inodes.takeBlocks(i);
                if (!sound) {
                    inodes.wipe(i);
                }
            }
        }

        private boolean hasSoundHead(int i) {
            int kind = inodes.kind(i);
            int place = Inodes.placeOf(i);
            return (kind == DIRECTORY || kind == FILE && i >= FIRST_OTHER)
                && image.isBlank(place + INDIRECT + 1, INODE_SUM - INDIRECT - 1)
                && image.pairAt(place + INODE_SUM) == inodes.rightSum(i);
        }

        private boolean hasSoundSize(int i) {
            int size = inodes.size(i);
            return size <= MOST_SIZE
                && (inodes.kind(i) == FILE || size > 0 && size % BLOCK_SIZE == 0);
        }

        private boolean hasBlankRest(int i) {
            int count = inodes.blockCount(i);
            int place = Inodes.placeOf(i);
            if (count <= POINTERS) {
                return image.isBlank(place + POINTER + count, POINTERS - count + 1);
            }
            int told = count - POINTERS;
            return image.isBlank(image.at(place + INDIRECT) * BLOCK_SIZE + told, BLOCK_SIZE - told);
        }

        /** Makes the root or lost and found if it isn't there, at the cost of the last inodes if need be. */
        void provide(int dir) {
            if (inodes.kind(dir) != FREE) {
                return;
            }
            for (int i = INODES - 1; i > ROOT && !inodes.hasFreeBlock(); i--) {
                if (inodes.kind(i) != FREE) {
                    inodes.erase(i);
                }
            }
            directories.begin(dir, dir);
        }
    }

    /** Pass 3: every inode in use is reached from the root, or put into lost and found, or goes. */
    private static final class Connector {
        private static final int MOST_MARKS = 12;

        private final Image image;
        private final Inodes inodes;
        private final Directories directories;
        private final Name name;
        private final int[] queue;
        private int head;
        private int tail;
        /** A bit for each inode. */
        private int reached;

        Connector(Image image, Inodes inodes, Directories directories) {
            this.image = image;
            this.inodes = inodes;
            this.directories = directories;
            this.name = new Name();
            this.queue = new int[INODES];
        }

        void connect() {
            head = 0;
            tail = 0;
            reached = 0;
            if (inodes.kind(ROOT) != FREE) {
                reach(ROOT);
                goThrough();
            }
            for (int i = ROOT; i < INODES; i++) {
                if (inodes.kind(i) == FREE || isReached(i)) {
                    continue;
                }
                int place = findName(i) ? directories.roomIn(LOST_AND_FOUND) : NONE;
                if (place != NONE) {
                    putAway(i, place);
                    goThrough();
                } else {
                    inodes.erase(i);
                    directories.wipeEntriesOf(i);
                }
            }
        }

        private boolean isReached(int i) {
            return (reached >> i & 1) != 0;
        }

        private void reach(int i) {
            reached |= 1 << i;
            if (inodes.kind(i) == DIRECTORY && tail >= 0 && tail < INODES) {
                queue[tail] = i;
                tail++;
            }
        }

        private void goThrough() {
            for (; head >= 0 && head < tail && head < INODES; head++) {
                int dir = queue[head];
                int count = directories.entryCount(dir);
                for (int e = THIRD_PLACE; e < count; e++) {
                    follow(dir, directories.entryPlace(dir, e));
                }
            }
        }

        private void follow(int dir, int place) {
            int i = image.at(place);
            int kind = inodes.kind(i);
            if (kind == DIRECTORY && isReached(i)) {
                directories.wipeEntry(place);
            } else if (kind != FREE) {
                reach(i);
                directories.setParent(i, dir);
            }
        }

        /** The name that an inode gets in lost and found; false when there is none left, or no such directory. */
        private boolean findName(int i) {
            int most = isReached(LOST_AND_FOUND) ? MOST_MARKS : 0;
            for (int marks = 1; marks <= most; marks++) {
                name.number(marks, i);
                if (directories.seek(LOST_AND_FOUND, name) == NONE) {
                    return true;
                }
            }
            return false;
        }

        private void putAway(int i, int place) {
            directories.writeEntry(place, i, name);
            reach(i);
            directories.setParent(i, LOST_AND_FOUND);
        }
    }

    /** Plans on the second image what the disk is to be, and writes it. */
    private static final class Repairer {
        private final Image disk;
        private final Image planned;
        private final Inodes inodes;
        private final Directories directories;
        private final InodePass inodePass;
        private final Connector connector;

        Repairer(Image disk, Image planned, Inodes inodes, Directories directories) {
            this.disk = disk;
            this.planned = planned;
            this.inodes = inodes;
            this.directories = directories;
            this.inodePass = new InodePass(planned, inodes, directories);
            this.connector = new Connector(planned, inodes, directories);
        }

        /** Goes through the passes: how many blocks differ then. NONE when there is no good super. */
        int plan() {
            if (!Super.isGood(disk, FIRST_SUPER) && !Super.isGood(disk, LAST_SUPER)) {
                return NONE;
            }
            planned.copyAll(disk);
            Journal.replay(planned);
            inodePass.keepSound();
            inodePass.provide(ROOT);
            inodePass.provide(LOST_AND_FOUND);
            for (int i = ROOT; i < INODES; i++) {
                if (inodes.kind(i) == DIRECTORY) {
                    directories.tidy(i);
                }
            }
            connector.connect();
            settle();
            return countDiffering();
        }

        /** Passes 4 and 5. */
        private void settle() {
            directories.countLinks();
            int freeInodes = 0;
            for (int i = ROOT; i < INODES; i++) {
                inodes.writeSum(i);
                freeInodes += inodes.kind(i) == FREE ? 1 : 0;
            }
            writeMaps();
            int freeBlocks = DATA_BLOCKS - Long.bitCount(inodes.taken());
            Super.write(planned, FIRST_SUPER, freeBlocks, freeInodes);
            Super.write(planned, LAST_SUPER, freeBlocks, freeInodes);
        }

        private void writeMaps() {
            int place = MAPS_BLOCK * BLOCK_SIZE;
            planned.wipe(place, BLOCK_SIZE);
            for (int block = 0; block < BLOCKS; block++) {
                if (!isDataBlock(block) || (inodes.taken() >> block & 1) != 0) {
                    markUsed(place, block);
                }
            }
            for (int i = 0; i < INODES; i++) {
                if (i == 0 || inodes.kind(i) != FREE) {
                    markUsed(place + BLOCKS / 8, i);
                }
            }
        }

        private void markUsed(int map, int number) {
            int place = map + number / 8;
            planned.set(place, planned.at(place) | 128 >> number % 8);
        }

        private int countDiffering() {
            int differing = 0;
            for (int block = 0; block < BLOCKS; block++) {
                if (!planned.sameBlock(block, disk)) {
                    differing++;
                }
            }
            return differing;
        }

        /** Writes the blocks that differ, at most so many: how many those were. */
        int writeBlocks(int most) {
            int written = 0;
            for (int block = 0; block < BLOCKS && written < most; block++) {
                if (!planned.sameBlock(block, disk)) {
                    disk.copyBlock(block, planned, block);
                    written++;
                }
            }
            return written;
        }

        /** Takes over what the writer did on the plan of a consistent disk. */
        void keepPlan() {
            settle();
            disk.copyAll(planned);
        }
    }

    /** The file system's own writer: it changes the plan of a consistent disk, which is thrown away if it refuses. */
    private static final class Writer {
        private final Image image;
        private final Inodes inodes;
        private final Directories directories;

        Writer(Image image, Inodes inodes, Directories directories) {
            this.image = image;
            this.inodes = inodes;
            this.directories = directories;
        }

        int create(int dir, Name name, int kind) {
            int i = inodes.firstFree();
            if (i == NONE || !mayEnter(dir, name)) {
                return NONE;
            }
            if (kind == FILE) {
                inodes.begin(i, FILE);
            } else if (!directories.begin(i, dir)) {
                return NONE;
            }
            return enter(dir, name, i) ? i : NONE;
        }

        boolean addEntry(int dir, Name name, int i) {
            return inodes.kind(i) == FILE && mayEnter(dir, name) && enter(dir, name, i);
        }

        private boolean mayEnter(int dir, Name name) {
            return inodes.kind(dir) == DIRECTORY
                && name.isAllowed()
                && directories.seek(dir, name) == NONE;
        }

        private boolean enter(int dir, Name name, int i) {
            int place = directories.roomIn(dir);
            if (place == NONE) {
                return false;
            }
            directories.writeEntry(place, i, name);
            return true;
        }

        boolean lengthen(int i, int b) {
            int size = inodes.size(i);
            if (inodes.kind(i) != FILE || size % BLOCK_SIZE == 0 && inodes.addBlock(i) == NONE) {
                return false;
            }
            image.set(inodes.contentPlace(i, size), b);
            inodes.setSize(i, size + 1);
            return true;
        }

        boolean removeEntry(int dir, Name name) {
            int place = inodes.kind(dir) == DIRECTORY ? directories.seek(dir, name) : NONE;
            if (place == NONE) {
                return false;
            }
            int i = image.at(place);
            boolean isFile = inodes.kind(i) == FILE;
            if (!isFile && !directories.isEmpty(i)) {
                return false;
            }
            directories.wipeEntry(place);
            if (!isFile || inodes.links(i) == 1) {
                inodes.erase(i);
            }
            return true;
        }
    }
}
