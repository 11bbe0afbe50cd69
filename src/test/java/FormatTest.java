/** Promise 2 (format). */
public final class FormatTest {
    private static final Expect expect = new Expect();

    public static void main(String[] args) {
        wholeDiskIsAsTold();
        whateverWasThereGoes();
        formattedDiskIsConsistent();
        expect.end();
    }

    /** Every byte of a formatted disk, from the document. */
    private static int[] due() {
        int[] w = new int[4096];
        for (int p = 0; p < 4096; p += 4032) {
            fill(w, p, 'S', 'F', 'S', 'K', 0, 45, 0, 29);
            // 83 + 70 + 83 + 75 + 45 + 29 = 385 = 256 + 129
            fill(w, p + 62, 1, 129);
        }
        fill(w, 448, 255, 255, 192, 0, 0, 0, 0, 1, 224);
        fill(w, 528, 2, 3, 0, 64, 16);
        fill(w, 542, 0, 85);
        fill(w, 544, 2, 2, 0, 64, 17);
        fill(w, 558, 0, 85);
        fill(w, 1024, 1, 1, '.');
        fill(w, 1040, 1, 2, '.', '.');
        fill(w, 1056, 2, 10, 'l', 'o', 's', 't', '+', 'f', 'o', 'u', 'n', 'd');
        fill(w, 1088, 2, 1, '.');
        fill(w, 1104, 1, 2, '.', '.');
        return w;
    }

    private static void fill(int[] w, int place, int... values) {
        System.arraycopy(values, 0, w, place, values.length);
    }

    private static void compare(String what, FsckDesk desk) {
        int[] due = due();
        for (int p = 0; p < 4096; p++) {
            expect.same(what + ": peek(" + p + ")", desk.peek(p), due[p]);
        }
    }

    private static void wholeDiskIsAsTold() {
        expect.sentence("then it is repaired: how many blocks were written by that.");
        FsckDesk desk = new FsckDesk();
        expect.same("format()", desk.format(), 6);
        compare("a new disk", desk);
    }

    private static void whateverWasThereGoes() {
        expect.sentence("All bytes are 0 but a good super in block 0 (its numbers 0)");
        Bench bench = new Bench();
        bench.fill(0, 4096, 255);
        expect.same("format() of a disk full of bytes", bench.desk.format(), 6);
        compare("a full disk", bench.desk);
        expect.same("format() of a formatted disk", bench.desk.format(), 6);
        compare("a formatted disk", bench.desk);
        bench.make(1, "a", 2);
        bench.make(3, "b", 1);
        bench.desk.append(4, 9);
        expect.same("format() of a disk in use", bench.desk.format(), 6);
        compare("a disk in use", bench.desk);
        bench.fill(128, 64, 8);
        bench.desk.commit(0x3e00_0000_0000_0000L, 1);
        expect.same("format() with a good journal", bench.desk.format(), 6);
        compare("a disk with a journal", bench.desk);
    }

    private static void formattedDiskIsConsistent() {
        expect.sentence("THE DISK IS CONSISTENT when it may be repaired and nothing would be written.");
        FsckDesk desk = new FsckDesk();
        desk.format();
        expect.same("check()", desk.check(), 0);
        expect.same("repair(-1)", desk.repair(-1), 0);
        compare("a repaired disk", desk);
        expect.same("make()", desk.make(1, 'a', 1), 3);
    }
}
