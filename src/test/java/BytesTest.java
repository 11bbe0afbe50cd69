/** Promises 1 (a new object), 3 (poke), 4 (peek). */
public final class BytesTest {
    private static final Expect expect = new Expect();

    public static void main(String[] args) {
        newObjectIsBlank();
        pokeAndPeek();
        wrongPlacesAndValues();
        expect.end();
    }

    private static void newObjectIsBlank() {
        FsckDesk desk = new FsckDesk();
        for (int p = 0; p < 4096; p++) {
            expect.same("new peek(" + p + ")", desk.peek(p), 0);
        }
        expect.same("NONE", FsckDesk.NONE, -1);
    }

    private static void pokeAndPeek() {
        FsckDesk desk = new FsckDesk();
        FsckDesk other = new FsckDesk();
        int[] places = {0, 1, 63, 64, 2047, 4094, 4095};
        for (int p : places) {
            for (int v : new int[] {255, 128, 127, 1, 0, 200}) {
                expect.yes("poke(" + p + ", " + v + ")", desk.poke(p, v));
                expect.same("peek(" + p + ")", desk.peek(p), v);
            }
        }
        expect.same("the neighbour of a poked byte", desk.peek(2), 0);
        expect.same("another object", other.peek(0), 0);
    }

    private static void wrongPlacesAndValues() {
        FsckDesk desk = new FsckDesk();
        int[] outside = {-1, 4096, 5000, Integer.MIN_VALUE, Integer.MAX_VALUE};
        for (int p : outside) {
            expect.no("poke(" + p + ", 1)", desk.poke(p, 1));
            expect.same("peek(" + p + ")", desk.peek(p), FsckDesk.NONE);
        }
        for (int v : new int[] {-1, 256, 511, Integer.MIN_VALUE, Integer.MAX_VALUE}) {
            expect.no("poke(9, " + v + ")", desk.poke(9, v));
            expect.same("peek(9)", desk.peek(9), 0);
        }
    }
}
