import java.util.ArrayList;
import java.util.Collections;
import java.util.List;
import java.util.Random;

/** Disks that are nearly sound, often full, with all that the passes look for wrong here and there. */
final class RandomDisk {
    private static final String[] NAMES = {
        "a", "b", "c", "d", "e", "f", "g", "hh", "...", ".x", "lost+found", "fourteen bytes", "#03", "##03", "###03",
        "#04", "##04", "#05", "#09", "#17", "#31"
    };

    private final Random random;
    private final int[] w = new int[4096];
    private final List<Integer> free = new ArrayList<>();
    private final int spoil;

    private RandomDisk(Random random) {
        this.random = random;
        this.spoil = random.nextInt(3) == 0 ? 1000000 : 5 + random.nextInt(60);
        for (int b = 16; b <= 62; b++) {
            free.add(b);
        }
        if (random.nextBoolean()) {
            Collections.shuffle(free, random);
        }
    }

    static int[] next(Random random) {
        return new RandomDisk(random).fill();
    }

    private boolean rarely() {
        return random.nextInt(spoil) == 0;
    }

    private int[] fill() {
        if (random.nextInt(3) == 0) {
            for (int p = 1024; p < 4032; p++) {
                w[p] = random.nextInt(4) == 0 ? random.nextInt(64) : 0;
            }
        }
        int most = 1 + random.nextInt(31);
        int mode = random.nextInt(5);
        for (int i = 1; i <= most; i++) {
            if (random.nextInt(8) > 0 || i < 3 && random.nextInt(4) > 0) {
                node(i, mode);
            }
        }
        journal();
        superBlocks();
        int stray = random.nextInt(3) == 0 ? random.nextInt(12) : 0;
        for (int k = 0; k < stray; k++) {
            w[random.nextInt(4096)] = random.nextInt(256);
        }
        return w;
    }

    private int countFor(int i, int mode, int kind) {
        if (mode == 0 && i == 1) {
            return 40 + random.nextInt(7);
        }
        if (mode == 1 && i == 2) {
            return 4 + random.nextInt(6);
        }
        if (mode == 2 && i == 2) {
            return 30 + random.nextInt(17);
        }
        if (mode == 3 && i > 2 && random.nextInt(6) == 0) {
            return 5 + random.nextInt(30);
        }
        return kind == 2 ? 1 + random.nextInt(2) : random.nextInt(4);
    }

    private void node(int i, int mode) {
        int kind = i < 3 || random.nextInt(3) == 0 ? 2 : 1;
        int count = countFor(i, mode, kind);
        int needed = count + (count > 5 ? 1 : 0);
        if (needed > free.size()) {
            count = kind == 2 ? 1 : 0;
            needed = count;
        }
        if (needed > free.size()) {
            return;
        }
        int p = 512 + 16 * i;
        int size = count == 0 ? 0 : kind == 2 ? count * 64 : count * 64 - random.nextInt(64);
        w[p] = rarely() ? random.nextInt(4) : kind;
        w[p + 1] = random.nextInt(3);
        w[p + 2] = size / 256;
        w[p + 3] = rarely() ? random.nextInt(256) : size % 256;
        blocks(p, count, kind);
        if (rarely()) {
            w[p + 4 + random.nextInt(10)] = random.nextInt(70);
        }
        int sum = 0;
        for (int k = 0; k < 14; k++) {
            sum += w[p + k];
        }
        w[p + 14] = sum / 256;
        w[p + 15] = rarely() ? random.nextInt(256) : sum % 256;
    }

    private void blocks(int p, int count, int kind) {
        int table = 0;
        if (count > 5) {
            table = free.remove(0);
            w[p + 9] = table;
            for (int k = 0; k < 64; k++) {
                w[table * 64 + k] = rarely() ? random.nextInt(64) : 0;
            }
        }
        int many = random.nextInt(5);
        for (int k = 0; k < count; k++) {
            int b = free.remove(0);
            if (rarely()) {
                b = 14 + random.nextInt(51);
            }
            if (k < 5) {
                w[p + 4 + k] = b;
            } else {
                w[table * 64 + k - 5] = b;
            }
            for (int e = 0; kind == 2 && e < 4; e++) {
                entry(b * 64 + e * 16, many);
            }
        }
    }

    private void entry(int p, int many) {
        for (int k = 0; k < 16; k++) {
            if (p + k < 4096) {
                w[p + k] = 0;
            }
        }
        if (p + 16 > 4096 || random.nextInt(5) > many) {
            return;
        }
        String name = random.nextBoolean() ? NAMES[random.nextInt(NAMES.length)]
            : "n" + (char) ('A' + random.nextInt(26)) + random.nextInt(10);
        if (random.nextInt(40) == 0) {
            name = random.nextBoolean() ? "." : "..";
        }
        if (many == 4 && random.nextInt(4) == 0) {
            name = "#".repeat(1 + random.nextInt(12)) + "0" + (3 + random.nextInt(3));
        }
        w[p] = random.nextInt(50) == 0 ? random.nextInt(40) : 3 + random.nextInt(29);
        w[p + 1] = rarely() ? random.nextInt(18) : name.length();
        for (int k = 0; k < name.length(); k++) {
            w[p + 2 + k] = name.charAt(k);
        }
        if (rarely()) {
            w[p + 2 + random.nextInt(14)] = random.nextBoolean() ? 47 : random.nextInt(256);
        }
    }

    private void journal() {
        if (random.nextInt(4) > 0) {
            return;
        }
        String mark = "JRNL";
        int n = random.nextInt(8) == 0 ? random.nextInt(8) : 1 + random.nextInt(5);
        for (int k = 0; k < 4; k++) {
            w[64 + k] = mark.charAt(k);
        }
        w[68] = n;
        for (int k = 0; k < n; k++) {
            w[69 + k] = random.nextInt(30) == 0 ? random.nextInt(256) : 7 + random.nextInt(56);
            int copied = 7 + random.nextInt(56);
            if (k < 5 && random.nextBoolean()) {
                System.arraycopy(w, copied * 64, w, 128 + 64 * k, 64);
            }
        }
        if (rarely()) {
            w[69 + random.nextInt(57)] = 1;
        }
        int sum = 0;
        for (int p = 64; p < 126; p++) {
            sum += w[p];
        }
        for (int p = 128; p < 128 + 64 * Math.min(5, n); p++) {
            sum += w[p];
        }
        w[126] = sum / 256 % 256;
        w[127] = rarely() ? 7 : sum % 256;
    }

    private void superBlocks() {
        for (int block = 0; block < 64; block += 63) {
            if (random.nextInt(6) == 0) {
                continue;
            }
            int p = block * 64;
            w[p] = 'S';
            w[p + 1] = 'F';
            w[p + 2] = 'S';
            w[p + 3] = 'K';
            w[p + 5] = random.nextInt(48);
            w[p + 7] = random.nextInt(32);
            int sum = 0;
            for (int k = 0; k < 62; k++) {
                sum += w[p + k];
            }
            w[p + 62] = sum / 256;
            w[p + 63] = sum % 256;
        }
    }
}
