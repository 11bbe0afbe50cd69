import java.util.ArrayDeque;
import java.util.ArrayList;
import java.util.Arrays;
import java.util.Collections;
import java.util.HashSet;
import java.util.List;
import java.util.Map;
import java.util.Set;
import java.util.TreeMap;

/**
 * The document told a second time, in another way: the disk is parsed into nodes and lists of entries, these are
 * changed, and a disk is made of them. What FsckDesk answers is compared with it.
 */
final class ModelDesk {
    static final int NONE = -1;

    int[] disk = new int[4096];

    private static final class Entry {
        final int inode;
        final String name;

        Entry(int inode, String name) {
            this.inode = inode;
            this.name = name;
        }
    }

    private static final class Node {
        int kind;
        int size;
        final List<Integer> blocks = new ArrayList<>();
        int indirect;
        /** Of a directory; null stands for a free place. */
        List<Entry> entries;

        Set<Integer> all() {
            Set<Integer> all = new HashSet<>(blocks);
            if (blocks.size() > 5) {
                all.add(indirect);
            }
            return all;
        }
    }

    /** What the passes have made of a disk so far. */
    private static final class State {
        int[] bytes;
        final TreeMap<Integer, Node> nodes = new TreeMap<>();

        Set<Integer> used() {
            Set<Integer> used = new HashSet<>();
            for (Node node : nodes.values()) {
                used.addAll(node.all());
            }
            return used;
        }

        List<Integer> free() {
            List<Integer> free = new ArrayList<>();
            Set<Integer> used = used();
            for (int b = 16; b <= 62; b++) {
                if (!used.contains(b)) {
                    free.add(b);
                }
            }
            return free;
        }
    }

    // ---- the calls

    int format() {
        Arrays.fill(disk, 0);
        writeSuper(disk, 0, 0, 0);
        return repair(NONE);
    }

    boolean poke(int place, int v) {
        if (place < 0 || place > 4095 || v < 0 || v > 255) {
            return false;
        }
        disk[place] = v;
        return true;
    }

    int peek(int place) {
        return place < 0 || place > 4095 ? NONE : disk[place];
    }

    boolean seal(int what) {
        if (what < 0 || what > 34) {
            return false;
        }
        if (what < 2) {
            int from = what * 63 * 64;
            put2(disk, from + 62, sum(disk, from, 62));
        } else if (what == 2) {
            put2(disk, 126, journalSum(disk));
        } else {
            int from = 512 + (what - 3) * 16;
            put2(disk, from + 14, sum(disk, from, 14));
        }
        return true;
    }

    boolean commit(long targets, int n) {
        if (n < 1 || n > 5) {
            return false;
        }
        Arrays.fill(disk, 64, 128, 0);
        disk[64] = 'J';
        disk[65] = 'R';
        disk[66] = 'N';
        disk[67] = 'L';
        disk[68] = n;
        for (int k = 0; k < n; k++) {
            disk[69 + k] = (int) (targets >>> 8 * (7 - k) & 0xff);
        }
        return seal(2);
    }

    int check() {
        int[] after = repaired();
        return after == null ? NONE : differing(after).size();
    }

    int repair(int crash) {
        int[] after = repaired();
        if (after == null || crash < NONE || crash > 64) {
            return NONE;
        }
        List<Integer> blocks = differing(after);
        int count = crash == NONE ? blocks.size() : Math.min(crash, blocks.size());
        for (int block : blocks.subList(0, count)) {
            System.arraycopy(after, block * 64, disk, block * 64, 64);
        }
        return count;
    }

    int inode(int i, int what) {
        if (i < 0 || i > 31 || what < 0 || what > 2) {
            return NONE;
        }
        int p = 512 + 16 * i;
        return what == 0 ? disk[p] : what == 1 ? disk[p + 1] : get2(disk, p + 2);
    }

    int read(int i, int k) {
        if (i < 0 || i > 31 || k < 0 || k >= inode(i, 2) || k / 64 > 45) {
            return NONE;
        }
        int p = 512 + 16 * i;
        int b;
        if (k < 320) {
            b = disk[p + 4 + k / 64];
        } else {
            int table = disk[p + 9];
            if (table < 16 || table > 62) {
                return NONE;
            }
            b = disk[table * 64 + k / 64 - 5];
        }
        return b < 16 || b > 62 ? NONE : disk[b * 64 + k % 64];
    }

    int find(int i, long name) {
        String wanted = text(name);
        if (i < 0 || i > 31 || wanted.isEmpty()) {
            return NONE;
        }
        for (int e = 2; e < inode(i, 2) / 16; e++) {
            if (read(i, 16 * e) == NONE || read(i, 16 * e + 1) != wanted.length()) {
                continue;
            }
            StringBuilder got = new StringBuilder();
            for (int k = 0; k < wanted.length(); k++) {
                got.append((char) read(i, 16 * e + 2 + k));
            }
            if (got.toString().equals(wanted)) {
                return read(i, 16 * e);
            }
        }
        return NONE;
    }

    int make(int dir, long name, int kind) {
        State s = consistent();
        if (s == null || kind != 1 && kind != 2 || !mayHave(s, dir, text(name))) {
            return NONE;
        }
        int i = 3;
        while (s.nodes.containsKey(i)) {
            i++;
        }
        if (i > 31) {
            return NONE;
        }
        Node node = new Node();
        node.kind = kind;
        if (kind == 2) {
            if (s.free().isEmpty()) {
                return NONE;
            }
            beginDirectory(s, node, i, dir);
        }
        s.nodes.put(i, node);
        if (!put(s, dir, new Entry(i, text(name)))) {
            return NONE;
        }
        disk = serialized(s);
        return i;
    }

    boolean append(int i, int b) {
        State s = consistent();
        if (s == null || b < 0 || b > 255 || !s.nodes.containsKey(i) || s.nodes.get(i).kind != 1) {
            return false;
        }
        Node node = s.nodes.get(i);
        if (node.size + 1 > 2944 || node.size % 64 == 0 && !grow(s, node)) {
            return false;
        }
        s.bytes[node.blocks.get(node.size / 64) * 64 + node.size % 64] = b;
        node.size++;
        disk = serialized(s);
        return true;
    }

    boolean link(int dir, long name, int i) {
        State s = consistent();
        if (s == null || !s.nodes.containsKey(i) || s.nodes.get(i).kind != 1 || !mayHave(s, dir, text(name))
            || !put(s, dir, new Entry(i, text(name)))) {
            return false;
        }
        disk = serialized(s);
        return true;
    }

    boolean unlink(int dir, long name) {
        State s = consistent();
        if (s == null || !s.nodes.containsKey(dir) || s.nodes.get(dir).kind != 2) {
            return false;
        }
        List<Entry> entries = s.nodes.get(dir).entries;
        int at = indexOf(entries, text(name));
        if (at < 2) {
            return false;
        }
        int i = entries.get(at).inode;
        Node node = s.nodes.get(i);
        if (node.kind == 2 && node.entries.stream().filter(e -> e != null).count() > 2) {
            return false;
        }
        entries.set(at, null);
        if (node.kind == 2 || entriesOf(s, i) == 0) {
            s.nodes.remove(i);
        }
        disk = serialized(s);
        return true;
    }

    // ---- the passes

    private State consistent() {
        State s = passes();
        return s != null && Arrays.equals(serialized(s), disk) ? s : null;
    }

    private int[] repaired() {
        State s = passes();
        return s == null ? null : serialized(s);
    }

    private State passes() {
        if (!goodSuper(0) && !goodSuper(63)) {
            return null;
        }
        State s = new State();
        s.bytes = disk.clone();
        replay(s.bytes);
        for (int i = 1; i < 32; i++) {
            Node node = soundNode(s, i);
            if (node != null) {
                s.nodes.put(i, node);
            }
        }
        for (int i = 1; i < 3; i++) {
            makeFixed(s, i);
        }
        for (Map.Entry<Integer, Node> each : s.nodes.entrySet()) {
            if (each.getValue().kind == 2) {
                tidy(s, each.getKey(), each.getValue());
            }
        }
        connect(s);
        return s;
    }

    private boolean goodSuper(int block) {
        int p = block * 64;
        return disk[p] == 'S' && disk[p + 1] == 'F' && disk[p + 2] == 'S' && disk[p + 3] == 'K'
            && get2(disk, p + 62) == sum(disk, p, 62);
    }

    private static void replay(int[] w) {
        int n = w[68];
        boolean good = w[64] == 'J' && w[65] == 'R' && w[66] == 'N' && w[67] == 'L' && n >= 1 && n <= 5;
        List<Integer> targets = new ArrayList<>();
        for (int k = 0; good && k < n; k++) {
            int t = w[69 + k];
            good = t >= 7 && t <= 62 && !targets.contains(t);
            targets.add(t);
        }
        for (int p = 69 + n; good && p < 126; p++) {
            good = w[p] == 0;
        }
        if (good && get2(w, 126) == journalSum(w)) {
            for (int k = 0; k < n; k++) {
                System.arraycopy(w, (2 + k) * 64, w, targets.get(k) * 64, 64);
            }
        }
        Arrays.fill(w, 64, 128, 0);
    }

    private static Node soundNode(State s, int i) {
        int[] w = s.bytes;
        int p = 512 + 16 * i;
        Node node = new Node();
        node.kind = w[p];
        node.size = get2(w, p + 2);
        boolean kindFits = node.kind == 2 || node.kind == 1 && i > 2;
        boolean dirFits = node.kind == 1 || node.size > 0 && node.size % 64 == 0;
        if (!kindFits || !dirFits || node.size > 2944 || get2(w, p + 14) != sum(w, p, 14) || sum(w, p + 10, 4) != 0) {
            return null;
        }
        int count = node.size / 64 + (node.size % 64 > 0 ? 1 : 0);
        List<Integer> mine = new ArrayList<>();
        for (int k = 0; k < 5; k++) {
            if (k < count) {
                node.blocks.add(w[p + 4 + k]);
            } else if (w[p + 4 + k] != 0) {
                return null;
            }
        }
        node.indirect = w[p + 9];
        if (count <= 5 && node.indirect != 0) {
            return null;
        }
        if (count > 5) {
            if (node.indirect < 16 || node.indirect > 62) {
                return null;
            }
            for (int k = 0; k < 64; k++) {
                int told = w[node.indirect * 64 + k];
                if (k < count - 5) {
                    node.blocks.add(told);
                } else if (told != 0) {
                    return null;
                }
            }
            mine.add(node.indirect);
        }
        mine.addAll(node.blocks);
        boolean inside = mine.stream().allMatch(b -> b >= 16 && b <= 62);
        boolean different = new HashSet<>(mine).size() == mine.size();
        return inside && different && Collections.disjoint(mine, s.used()) ? node : null;
    }

    private static void makeFixed(State s, int i) {
        if (s.nodes.containsKey(i)) {
            return;
        }
        while (s.free().isEmpty()) {
            int last = s.nodes.lastKey();
            if (last == 1) {
                return;
            }
            s.nodes.remove(last);
        }
        Node node = new Node();
        node.kind = 2;
        beginDirectory(s, node, i, i);
        s.nodes.put(i, node);
    }

    private static void beginDirectory(State s, Node node, int i, int parent) {
        int block = s.free().get(0);
        Arrays.fill(s.bytes, block * 64, block * 64 + 64, 0);
        node.blocks.add(block);
        node.size = 64;
        node.entries = new ArrayList<>(Arrays.asList(new Entry(i, "."), new Entry(parent, ".."), null, null));
    }

    private static void tidy(State s, int dir, Node node) {
        Set<String> names = new HashSet<>();
        List<Entry> entries = new ArrayList<>();
        entries.add(new Entry(dir, "."));
        entries.add(new Entry(dir, ".."));
        if (dir == 1 && s.nodes.containsKey(2)) {
            entries.add(new Entry(2, "lost+found"));
            names.add("lost+found");
        }
        for (int e = entries.size(); e < node.size / 16; e++) {
            Entry entry = validEntry(s, node.blocks.get(e / 4) * 64 + e % 4 * 16);
            entries.add(entry != null && names.add(entry.name) ? entry : null);
        }
        node.entries = entries;
    }

    private static Entry validEntry(State s, int p) {
        int inode = s.bytes[p];
        int length = s.bytes[p + 1];
        if (inode < 3 || !s.nodes.containsKey(inode) || length < 1 || length > 14) {
            return null;
        }
        StringBuilder name = new StringBuilder();
        for (int k = 0; k < 14; k++) {
            int v = s.bytes[p + 2 + k];
            if (k < length ? v == 0 || v == '/' : v != 0) {
                return null;
            }
            if (k < length) {
                name.append((char) v);
            }
        }
        String told = name.toString();
        return told.equals(".") || told.equals("..") ? null : new Entry(inode, told);
    }

    private static void connect(State s) {
        Set<Integer> reached = new HashSet<>();
        ArrayDeque<Integer> queue = new ArrayDeque<>();
        if (s.nodes.containsKey(1)) {
            reached.add(1);
            queue.add(1);
        }
        goThrough(s, reached, queue);
        for (int i = 1; i < 32; i++) {
            if (!s.nodes.containsKey(i) || reached.contains(i)) {
                continue;
            }
            String name = reached.contains(2) ? lostName(s.nodes.get(2).entries, i) : null;
            if (name == null || !put(s, 2, new Entry(i, name))) {
                giveUp(s, i);
                continue;
            }
            reached.add(i);
            if (s.nodes.get(i).kind == 2) {
                s.nodes.get(i).entries.set(1, new Entry(2, ".."));
                queue.add(i);
            }
            goThrough(s, reached, queue);
        }
    }

    private static void goThrough(State s, Set<Integer> reached, ArrayDeque<Integer> queue) {
        while (!queue.isEmpty()) {
            int dir = queue.remove();
            List<Entry> entries = s.nodes.get(dir).entries;
            for (int e = 2; e < entries.size(); e++) {
                if (entries.get(e) == null) {
                    continue;
                }
                int i = entries.get(e).inode;
                boolean isNew = reached.add(i);
                if (s.nodes.get(i).kind == 1) {
                    continue;
                }
                if (isNew) {
                    s.nodes.get(i).entries.set(1, new Entry(dir, ".."));
                    queue.add(i);
                } else {
                    entries.set(e, null);
                }
            }
        }
    }

    private static String lostName(List<Entry> entries, int i) {
        for (int marks = 1; marks <= 12; marks++) {
            String name = "#".repeat(marks) + i / 10 + i % 10;
            if (indexOf(entries, name) < 0) {
                return name;
            }
        }
        return null;
    }

    private static void giveUp(State s, int i) {
        Node gone = s.nodes.remove(i);
        if (gone.kind == 2) {
            writeEntries(s.bytes, gone);
        }
        for (Node node : s.nodes.values()) {
            if (node.kind == 2) {
                node.entries.replaceAll(e -> e != null && e.inode == i ? null : e);
            }
        }
    }

    private static boolean put(State s, int dir, Entry entry) {
        Node node = s.nodes.get(dir);
        int at = node.entries.indexOf(null);
        if (at < 0) {
            at = node.entries.size();
            if (!grow(s, node)) {
                return false;
            }
            node.size += 64;
            node.entries.addAll(Arrays.asList(null, null, null, null));
        }
        node.entries.set(at, entry);
        return true;
    }

    private static boolean grow(State s, Node node) {
        List<Integer> free = s.free();
        int had = node.blocks.size();
        if (had == 46 || free.size() < (had == 5 ? 2 : 1)) {
            return false;
        }
        node.blocks.add(free.get(0));
        Arrays.fill(s.bytes, free.get(0) * 64, free.get(0) * 64 + 64, 0);
        if (had == 5) {
            node.indirect = free.get(1);
        }
        return true;
    }

    private static boolean mayHave(State s, int dir, String name) {
        return s.nodes.containsKey(dir) && s.nodes.get(dir).kind == 2
            && !name.isEmpty() && !name.equals(".") && !name.equals("..")
            && name.indexOf('\0') < 0 && name.indexOf('/') < 0
            && indexOf(s.nodes.get(dir).entries, name) < 0;
    }

    private static int indexOf(List<Entry> entries, String name) {
        for (int e = 0; e < entries.size(); e++) {
            if (entries.get(e) != null && entries.get(e).name.equals(name)) {
                return e;
            }
        }
        return -1;
    }

    private static int entriesOf(State s, int i) {
        int count = 0;
        for (Node node : s.nodes.values()) {
            for (int e = 2; node.kind == 2 && e < node.entries.size(); e++) {
                count += node.entries.get(e) != null && node.entries.get(e).inode == i ? 1 : 0;
            }
        }
        return count;
    }

    // ---- a disk made of the nodes

    private static int[] serialized(State s) {
        int[] w = s.bytes.clone();
        Arrays.fill(w, 512, 1024, 0);
        for (Map.Entry<Integer, Node> each : s.nodes.entrySet()) {
            writeNode(s, w, each.getKey(), each.getValue());
        }
        Arrays.fill(w, 448, 512, 0);
        Set<Integer> used = s.used();
        for (int b = 0; b < 64; b++) {
            if (b < 16 || b == 63 || used.contains(b)) {
                w[448 + b / 8] += 1 << 7 - b % 8;
            }
        }
        w[456] += 128;
        for (int i : s.nodes.keySet()) {
            w[456 + i / 8] += 1 << 7 - i % 8;
        }
        writeSuper(w, 0, 47 - used.size(), 31 - s.nodes.size());
        writeSuper(w, 63, 47 - used.size(), 31 - s.nodes.size());
        return w;
    }

    private static void writeNode(State s, int[] w, int i, Node node) {
        int p = 512 + 16 * i;
        int links = entriesOf(s, i);
        if (node.kind == 2) {
            writeEntries(w, node);
            links = 2;
            for (int e = 2; e < node.entries.size(); e++) {
                Entry entry = node.entries.get(e);
                links += entry != null && s.nodes.get(entry.inode).kind == 2 ? 1 : 0;
            }
        }
        w[p] = node.kind;
        w[p + 1] = links;
        put2(w, p + 2, node.size);
        for (int k = 0; k < Math.min(5, node.blocks.size()); k++) {
            w[p + 4 + k] = node.blocks.get(k);
        }
        if (node.blocks.size() > 5) {
            w[p + 9] = node.indirect;
            for (int k = 0; k < 64; k++) {
                w[node.indirect * 64 + k] = k + 5 < node.blocks.size() ? node.blocks.get(k + 5) : 0;
            }
        }
        put2(w, p + 14, sum(w, p, 14));
    }

    private static void writeEntries(int[] w, Node node) {
        for (int e = 0; e < node.entries.size(); e++) {
            int p = node.blocks.get(e / 4) * 64 + e % 4 * 16;
            Arrays.fill(w, p, p + 16, 0);
            Entry entry = node.entries.get(e);
            if (entry != null) {
                w[p] = entry.inode;
                w[p + 1] = entry.name.length();
                for (int k = 0; k < entry.name.length(); k++) {
                    w[p + 2 + k] = entry.name.charAt(k);
                }
            }
        }
    }

    private static void writeSuper(int[] w, int block, int freeBlocks, int freeInodes) {
        int p = block * 64;
        Arrays.fill(w, p, p + 64, 0);
        w[p] = 'S';
        w[p + 1] = 'F';
        w[p + 2] = 'S';
        w[p + 3] = 'K';
        put2(w, p + 4, freeBlocks);
        put2(w, p + 6, freeInodes);
        put2(w, p + 62, sum(w, p, 62));
    }

    private List<Integer> differing(int[] after) {
        List<Integer> blocks = new ArrayList<>();
        for (int b = 0; b < 64; b++) {
            if (!Arrays.equals(disk, 64 * b, 64 * b + 64, after, 64 * b, 64 * b + 64)) {
                blocks.add(b);
            }
        }
        return blocks;
    }

    private static int journalSum(int[] w) {
        return (sum(w, 64, 62) + sum(w, 128, 64 * Math.min(5, w[68]))) % 65536;
    }

    private static String text(long name) {
        StringBuilder text = new StringBuilder();
        for (long rest = name; rest != 0; rest >>>= 8) {
            text.insert(0, (char) (rest & 0xff));
        }
        return text.toString();
    }

    private static int sum(int[] w, int from, int count) {
        return Arrays.stream(w, from, from + count).sum() % 65536;
    }

    private static int get2(int[] w, int p) {
        return w[p] << 8 | w[p + 1];
    }

    private static void put2(int[] w, int p, int v) {
        w[p] = v / 256;
        w[p + 1] = v % 256;
    }
}
