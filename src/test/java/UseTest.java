/** The run that README.md shows, with its answers. */
public final class UseTest {
    private static final Expect expect = new Expect();

    public static void main(String[] args) {
        FsckDesk desk = new FsckDesk();
        writeAndRead(desk);
        spoilAndRepair(desk);
        replayAndRemove(desk);
        expect.end();
    }

    private static void writeAndRead(FsckDesk desk) {
        expect.sentence("the file system's own writer and reader.");
        expect.same("format()", desk.format(), 6);
        expect.same("make(1, 'a', 1)", desk.make(1, 'a', 1), 3);
        expect.yes("append(3, 65)", desk.append(3, 65));
        expect.yes("link(1, 0x6162, 3)", desk.link(1, 0x6162, 3));
        expect.same("find(1, 0x6162)", desk.find(1, 0x6162), 3);
        expect.same("read(3, 0)", desk.read(3, 0), 65);
        expect.same("inode(3, 1)", desk.inode(3, 1), 2);
    }

    private static void spoilAndRepair(FsckDesk desk) {
        expect.sentence("writing block by block, with crashes");
        expect.yes("poke(1024 + 48, 0)", desk.poke(1024 + 48, 0));
        expect.same("make(1, 'c', 1)", desk.make(1, 'c', 1), -1);
        expect.same("check()", desk.check(), 2);
        expect.same("repair(1)", desk.repair(1), 1);
        expect.same("repair(NONE)", desk.repair(FsckDesk.NONE), 1);
        expect.same("inode(3, 1)", desk.inode(3, 1), 1);
        expect.same("find(1, 'a')", desk.find(1, 'a'), -1);
    }

    private static void replayAndRemove(FsckDesk desk) {
        expect.sentence("A disk of a small file system with a journal, and what repairs it");
        expect.yes("poke(2 * 64, 66)", desk.poke(2 * 64, 66));
        expect.yes("commit(18L << 56, 1)", desk.commit(18L << 56, 1));
        expect.same("repair(NONE)", desk.repair(FsckDesk.NONE), 2);
        expect.same("read(3, 0)", desk.read(3, 0), 66);
        expect.yes("unlink(1, 0x6162)", desk.unlink(1, 0x6162));
        expect.same("inode(3, 0)", desk.inode(3, 0), 0);
        expect.same("check()", desk.check(), 0);
    }
}
