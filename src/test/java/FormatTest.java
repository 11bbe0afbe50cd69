/** Promise 2 (format). */
public final class FormatTest {
    private static final Expect expect = new Expect();

    public static void main(String[] args) {
        wholeDiskIsAsTold();
        formatAgain();
        expect.end();
    }

    /** Every byte of a formatted disk, from the document. */
    private static int[] due() {
        int[] w = new int[4096];
        for (int p = 0; p < 4096; p += 4032) {
            fill(w, p, 'S', 'F', 'S', 'K', 0, 45, 0, 29);
            // 83 + 70 + 83 + 75 + 45 + 29 = 385 = 256 + 129
            fill(w, p + 62, 1, 129);
        }
        fill(w, 448, 255, 255, 192, 0, 0, 0, 0, 1, 224);
        fill(w, 528, 2, 3, 0, 64, 16);
        fill(w, 542, 0, 85);
        fill(w, 544, 2, 2, 0, 64, 17);
        fill(w, 558, 0, 85);
        fill(w, 1024, 1, 1, '.');
        fill(w, 1040, 1, 2, '.', '.');
        fill(w, 1056, 2, 10, 'l', 'o', 's', 't', '+', 'f', 'o', 'u', 'n', 'd');
        fill(w, 1088, 2, 1, '.');
        fill(w, 1104, 1, 2, '.', '.');
        return w;
    }

    private static void fill(int[] w, int place, int... values) {
        System.arraycopy(values, 0, w, place, values.length);
    }

    private static void compare(FsckDesk desk) {
        int[] due = due();
        for (int p = 0; p < 4096; p++) {
            expect.same("formatted peek(" + p + ")", desk.peek(p), due[p]);
        }
    }

    private static void wholeDiskIsAsTold() {
        FsckDesk desk = new FsckDesk();
        expect.same("format()", desk.format(), 6);
        compare(desk);
        expect.same("check()", desk.check(), 0);
    }

    private static void formatAgain() {
        FsckDesk desk = new FsckDesk();
        for (int p = 0; p < 4096; p += 3) {
            desk.poke(p, 1 + p % 255);
        }
        expect.same("format() of a disk full of bytes", desk.format(), 6);
        compare(desk);
        expect.same("format() of a formatted disk", desk.format(), 6);
        compare(desk);
    }
}
