import java.util.Random;

/** FsckDesk against the model, over disks and calls from a fixed seed. All promises. */
public final class ModelTest {
    private static final long[] NAMES = {
        0L, 46L, 0x2e2eL, 0x2e2e2eL, 47L, 0x612fL, 0x6100L, 0x61L, 0x62L, 0x63L, 0x6162636465666768L,
        0x233033L, 0x23233033L, 0x233034L, 0x6e4130L, 0x6e4231L, 0xff01020304050607L, -1L, 0x6c6f73742b666f75L
    };

    private final Expect expect = new Expect();
    private final Random random = new Random(20261115);
    private FsckDesk desk;
    private ModelDesk model;
    private String where;

    public static void main(String[] args) {
        int rounds = args.length > 0 ? Integer.parseInt(args[0]) : 3000;
        ModelTest test = new ModelTest();
        for (int round = 0; round < rounds && test.expect.isClean(); round++) {
            test.run(round);
        }
        test.expect.end();
    }

    private void run(int round) {
        desk = new FsckDesk();
        model = new ModelDesk();
        where = "round " + round + " ";
        if (round % 2 == 0) {
            load(RandomDisk.next(random));
        } else {
            both("format()", desk.format(), model.format());
        }
        int calls = 1 + random.nextInt(round % 2 == 0 ? 12 : 80);
        for (int k = 0; k < calls && expect.isClean(); k++) {
            call(k);
        }
        // more than 512 calls: this program has no end of its own there, and the whole disk is to be compared
        compareDisks();
    }

    private void load(int[] bytes) {
        for (int p = 0; p < 4096; p++) {
            if (bytes[p] != 0) {
                both("poke", desk.poke(p, bytes[p]), model.poke(p, bytes[p]));
            }
        }
    }

    private void both(String what, int got, int want) {
        expect.same(where + what, got, want);
    }

    private void both(String what, boolean got, boolean want) {
        expect.same(where + what, got ? 1 : 0, want ? 1 : 0);
    }

    private void compareDisks() {
        for (int p = 0; p < 4096; p++) {
            both("peek(" + p + ")", desk.peek(p), model.peek(p));
        }
    }

    private int anInode() {
        return random.nextInt(20) == 0 ? random.nextInt(40) - 4 : random.nextInt(4) == 0 ? random.nextInt(32)
            : 1 + random.nextInt(8);
    }

    private long aName() {
        return random.nextInt(3) == 0 ? NAMES[random.nextInt(NAMES.length)] : 0x6e4130L + random.nextInt(40);
    }

    private void call(int k) {
        where = where.substring(0, where.indexOf(' ', 6) + 1) + "call " + k + ": ";
        switch (random.nextInt(24)) {
            case 0, 1 -> {
                int crash = random.nextInt(8) == 0 ? random.nextInt(70) - 3 : random.nextInt(3) == 0 ? random.nextInt(4) : -1;
                both("repair(" + crash + ")", desk.repair(crash), model.repair(crash));
                compareDisks();
            }
            case 2 -> both("check()", desk.check(), model.check());
            case 3 -> look();
            case 4 -> damage();
            case 5 -> {
                long targets = 0;
                for (int n = 0; n < 8; n++) {
                    targets = targets << 8 | (random.nextInt(20) == 0 ? random.nextInt(256) : 7 + random.nextInt(56));
                }
                int n = random.nextInt(8) - 1;
                both("commit(" + targets + ", " + n + ")", desk.commit(targets, n), model.commit(targets, n));
            }
            case 6, 7, 8, 9, 10, 11 -> {
                int dir = anInode();
                long name = aName();
                int kind = random.nextInt(20) == 0 ? random.nextInt(5) - 1 : 1 + random.nextInt(2);
                both("make(" + dir + ", " + name + ", " + kind + ")", desk.make(dir, name, kind), model.make(dir, name, kind));
            }
            case 12, 13, 14, 15 -> {
                int i = anInode();
                int times = random.nextInt(3) == 0 ? 70 : 1;
                for (int t = 0; t < times; t++) {
                    int b = random.nextInt(30) == 0 ? random.nextInt(300) - 20 : random.nextInt(256);
                    both("append(" + i + ", " + b + ")", desk.append(i, b), model.append(i, b));
                }
            }
            case 16, 17, 18, 19 -> {
                int dir = anInode();
                int i = anInode();
                int times = random.nextInt(4) == 0 ? 30 : 1;
                for (int t = 0; t < times; t++) {
                    long name = aName();
                    both("link(" + dir + ", " + name + ", " + i + ")", desk.link(dir, name, i), model.link(dir, name, i));
                }
            }
            case 20, 21 -> {
                int dir = anInode();
                long name = aName();
                both("unlink(" + dir + ", " + name + ")", desk.unlink(dir, name), model.unlink(dir, name));
            }
            default -> {
                both("repair(-1)", desk.repair(-1), model.repair(-1));
                both("check()", desk.check(), model.check());
            }
        }
    }

    private void look() {
        for (int n = 0; n < 20; n++) {
            int i = anInode();
            int what = random.nextInt(5) - 1;
            both("inode(" + i + ", " + what + ")", desk.inode(i, what), model.inode(i, what));
            int k = random.nextInt(4) == 0 ? random.nextInt(70000) - 100 : random.nextInt(600);
            both("read(" + i + ", " + k + ")", desk.read(i, k), model.read(i, k));
            long name = aName();
            both("find(" + i + ", " + name + ")", desk.find(i, name), model.find(i, name));
        }
    }

    private void damage() {
        int times = 1 + random.nextInt(3);
        for (int n = 0; n < times; n++) {
            int i = random.nextInt(12);
            int p = switch (random.nextInt(4)) {
                case 0 -> 512 + 16 * i + random.nextInt(16);
                case 1 -> 1024 + random.nextInt(600);
                case 2 -> random.nextInt(4200) - 50;
                default -> 512 + 16 * i + 4 + random.nextInt(3);
            };
            int v = random.nextInt(4) == 0 ? random.nextInt(270) - 5 : random.nextInt(40);
            both("poke(" + p + ", " + v + ")", desk.poke(p, v), model.poke(p, v));
            int what = random.nextInt(5) == 0 ? random.nextInt(40) - 3 : 3 + i;
            both("seal(" + what + ")", desk.seal(what), model.seal(what));
        }
    }
}
