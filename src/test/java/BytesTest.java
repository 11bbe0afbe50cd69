/** Promises 1 (a new object), 3 (poke), 4 (peek), and how many calls an object is used for. */
public final class BytesTest {
    private static final Expect expect = new Expect();

    public static void main(String[] args) {
        newObjectIsBlank();
        pokedBytesAreThere();
        pokeRefuses();
        peekRefuses();
        callsUpTo512();
        expect.end();
    }

    private static void newObjectIsBlank() {
        expect.sentence("A disk of bytes 0.");
        FsckDesk desk = new FsckDesk();
        for (int p = 0; p < 4096; p++) {
            expect.same("peek(" + p + ")", desk.peek(p), 0);
        }
        expect.same("NONE", FsckDesk.NONE, -1);
        FsckDesk other = new FsckDesk();
        desk.format();
        expect.same("peek(0) of another object", other.peek(0), 0);
        expect.same("check() of it", other.check(), -1);
    }

    private static void pokedBytesAreThere() {
        expect.sentence("A byte becomes v.");
        FsckDesk desk = new FsckDesk();
        for (int p : new int[] {0, 1, 63, 64, 2047, 2048, 4094, 4095}) {
            for (int v : new int[] {255, 128, 127, 1, 0, 200}) {
                expect.yes("poke(" + p + ", " + v + ")", desk.poke(p, v));
                expect.same("peek(" + p + ")", desk.peek(p), v);
            }
        }
        expect.same("the neighbour of a poked byte", desk.peek(2), 0);
        expect.same("the neighbour of the last one", desk.peek(4093), 0);
    }

    private static void pokeRefuses() {
        expect.sentence("False when place is not 0 .. 4095, or v not 0 .. 255.");
        Bench bench = new Bench();
        bench.fill(0, 4096, 7);
        int[] before = bench.snapshot();
        for (int p : new int[] {-1, -4096, 4096, 4097, 8191, 65536, Integer.MIN_VALUE, Integer.MAX_VALUE}) {
            expect.no("poke(" + p + ", 1)", bench.desk.poke(p, 1));
        }
        for (int v : new int[] {-1, -255, 256, 257, 511, Integer.MIN_VALUE, Integer.MAX_VALUE}) {
            expect.no("poke(0, " + v + ")", bench.desk.poke(0, v));
            expect.no("poke(4095, " + v + ")", bench.desk.poke(4095, v));
            expect.no("poke(4096, " + v + ")", bench.desk.poke(4096, v));
        }
        expect.unchanged("behind refused pokes", bench, before);
    }

    private static void peekRefuses() {
        expect.sentence("A byte; NONE when there is none such.");
        Bench bench = new Bench();
        bench.fill(0, 4096, 9);
        expect.same("peek(0)", bench.desk.peek(0), 9);
        expect.same("peek(4095)", bench.desk.peek(4095), 9);
        for (int p : new int[] {-1, 4096, 4097, 8192, Integer.MIN_VALUE, Integer.MAX_VALUE}) {
            expect.same("peek(" + p + ")", bench.desk.peek(p), -1);
        }
    }

    private static void callsUpTo512() {
        expect.sentence("An object is used for at most 512 calls after it has been made");
        FsckDesk desk = new FsckDesk();
        expect.same("call 1: format()", desk.format(), 6);
        expect.same("call 2: make(1, a, 1)", desk.make(1, 'a', 1), 3);
        for (int call = 3; call <= 510; call++) {
            expect.yes("call " + call + ": append", desk.append(3, call % 256));
        }
        expect.same("call 511: inode(3, 2)", desk.inode(3, 2), 508);
        expect.same("call 512: read(3, 507)", desk.read(3, 507), 510 % 256);
    }
}
