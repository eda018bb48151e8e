/** WRITE. */
public final class WriteTest {
    private static final int ZERO = 43690;
    private static final int MARK = 17545;

    public static void main(String[] args) {
        protectedDisk();
        waitTime();
        waitLost();
        writtenCells(false);
        writtenCells(true);
        askTimes();
        askLost();
        askLostAtTheLast();
        longSector();
        forcedWriting();
        wrongIds();
        waitAtFifthIndex();
        writingOverTheIndex();
        readerAroundWriting();
        readBack();
        Probe.finish("WriteTest");
    }

    /** An ID field that is over with the last cell of byte time 9: writing begins with byte time 20. */
    private static Probe sector(String name, int length) {
        return new Probe(name).paint(0, 0, ReadTest.id(0, 1, length)).set(1, 1);
    }

    private static void protectedDisk() {
        sector("protected", 0).protect(true).give(5).command(3).status(64).look(7, 3).run(150, 1).status(64).cells(0, 20, 0);
    }

    private static void waitTime() {
        sector("WAITS", 0).command(3).run(9, 0).status(1).run(1, 0).status(3).give(5).status(1).run(10, 0).status(1).cells(0, 20, 0)
            .run(1, 0).cells(0, 19, 0).cells(0, 20, ZERO).cells(0, 21, 0).status(1);
        // Over with the first cell of byte time 10: that one is the first, and writing begins with byte time 21.
        new Probe("WAITS from a first cell").paint(0, 1, ReadTest.id(0, 0, 0)).command(3).run(10, 0).status(1).run(1, 0).status(3)
            .run(9, 0).give(5).run(1, 0).cells(0, 20, 0).run(1, 0).cells(0, 20, 0).cells(0, 21, ZERO);
        // A byte given in the 11th byte time is in time.
        sector("just in time", 0).command(3).run(19, 0).status(3).give(5).run(1, 0).status(1).run(1, 0).cells(0, 20, ZERO);
        sector("take() serves too", 0).command(3).run(12, 0).status(3).take(0).run(8, 0).status(1).run(1, 0).cells(0, 20, ZERO);
    }

    private static void waitLost() {
        sector("LOST", 0).command(3).run(19, 0).status(3).run(1, 0).status(4).run(10, 0).status(4).cells(0, 20, 0).cells(0, 21, 0);
        sector("given before it asks", 0).command(3).run(9, 0).give(5).run(1, 0).status(3).run(10, 0).status(4).look(3, 5);
    }

    private static void writtenCells(boolean deleted) {
        int start = deleted ? 248 : 251;
        int[] bytes = {start, 65, 0, 245, 247, 255, 161, 254, 1, 128, 2, 3, 4, 5, 6, 7, 8};
        Probe p = sector(deleted ? "deleted cells" : "cells", 0);
        for (int i = 1; i < bytes.length; i++) {
            p.fill(bytes[i], 1);
        }
        p.command(3, deleted, true).serve(47, 16).status(0);
        for (int i = 0; i < 4; i++) {
            p.cells(0, 20 + i, ZERO);
        }
        for (int i = 0; i < 3; i++) {
            p.cells(0, 24 + i, MARK);
        }
        int before = 1;
        for (int i = 0; i < bytes.length; i++) {
            p.cells(0, 27 + i, Probe.encoded(before, bytes[i]));
            before = bytes[i] & 1;
        }
        int check = Probe.checkOf(bytes);
        p.cells(0, 44, Probe.encoded(before, check >> 8)).cells(0, 45, Probe.encoded(check >> 8 & 1, check & 255))
            .cells(0, 46, Probe.encoded(check & 1, 78)).cells(0, 47, 0).cells(0, 19, 0);
    }

    private static void askTimes() {
        Probe p = sector("asks", 0).command(3).run(10, 0).give(1).run(18, 0).status(1);
        for (int i = 0; i < 15; i++) {
            p.run(1, 0).status(3).give(i + 2).status(1);
        }
        // The last byte is asked for without DRQ; then come the check and a 78.
        p.run(1, 0).status(1).run(2, 0).status(1).run(1, 0).status(0).look(5, 47 * 16);
        for (int i = 0; i < 16; i++) {
            p.cells(0, 28 + i, Probe.encoded(i == 0 ? 1 : i & 1, i + 1));
        }
        // It ends with the last cell of the 78, and not before it.
        sector("the last cell", 0).spoil(0, 47 * 16 - 1, true).spoil(0, 47 * 16, true).command(3).serve(47, 16).status(0)
            .cells(0, 46, Probe.encoded(Probe.checkOf(new int[] {251, 0, 0, 0, 0, 0, 0, 0, 0, 0, 0, 0, 0, 0, 0, 0, 0}) & 1, 78))
            .cells(0, 47, 32768);
        // The byte is DATA as it is when its first cell is written.
        sector("DATA at that time", 0).command(3).run(10, 0).give(1).run(18, 0).give(200).run(1, 0).cells(0, 28, Probe.encoded(1, 200));
    }

    private static void askLost() {
        sector("LOST in a sector", 0).command(3).run(10, 0).give(255).run(19, 0).status(3).run(1, 0).status(7).give(3).status(5)
            .run(1, 0).status(7).cells(0, 28, Probe.encoded(1, 255)).cells(0, 29, Probe.encoded(1, 0)).cells(0, 30, Probe.encoded(0, 3))
            .look(3, 3).serve(17, 12).status(4);
    }

    private static void askLostAtTheLast() {
        Probe p = sector("LOST at the last", 0).fill(9, 16).command(3).serve(42, 15).status(1).run(1, 0).status(3).run(1, 0).status(7)
            .cells(0, 42, Probe.encoded(1, 9)).cells(0, 43, Probe.encoded(1, 0));
        p.run(3, 0).status(4).cells(0, 46, Probe.encoded(Probe.checkOf(251, 9, 9, 9, 9, 9, 9, 9, 9, 9, 9, 9, 9, 9, 9, 9, 0) & 1, 78));
        sector("served at the last", 0).fill(9, 16).command(3).serve(43, 16).status(1).run(1, 0).status(1).cells(0, 43, Probe.encoded(1, 9));
    }

    private static void longSector() {
        Probe p = sector("32 bytes", 1).fill(17, 32).command(3).serve(62, 32).status(1).serve(1, 0).status(0).look(5, 63 * 16);
        int[] bytes = new int[33];
        java.util.Arrays.fill(bytes, 17);
        bytes[0] = 251;
        int check = Probe.checkOf(bytes);
        p.cells(0, 59, Probe.encoded(1, 17)).cells(0, 60, Probe.encoded(1, check >> 8)).cells(0, 61, Probe.encoded(check >> 8 & 1, check & 255));
        // Another ID field that is over while it waits tells the size.
        new Probe("the latest ID's size").paint(0, 0, ReadTest.id(0, 1, 0)).paint(0, 160, ReadTest.id(0, 2, 1)).set(1, 1).fill(3, 50)
            .command(3).serve(62, 32).status(1).serve(1, 0).status(0);
    }

    private static void forcedWriting() {
        sector("forced", 0).fill(9, 16).command(3).serve(30, 3).force(true).status(0).run(20, 0).cells(0, 29, Probe.encoded(1, 9)).cells(0, 30, 0);
        sector("forced while it waits", 0).command(3).run(15, 0).force(true).status(0).run(30, 0).cells(0, 20, 0);
    }

    private static void wrongIds() {
        new Probe("a wrong ID").paint(0, 0, Probe.field(false, 254, 0, 0, 1, 0)).set(1, 1).command(3).run(10, 0).status(9).run(140, 1).status(9)
            .run(150, 1).run(150, 1).run(150, 1).run(149, 0).status(9).run(1, 1).status(24).cells(0, 20, 0);
        new Probe("a right one behind it").paint(0, 0, Probe.field(false, 254, 0, 0, 1, 0)).paint(0, 160, ReadTest.id(0, 1, 0)).set(1, 1)
            .command(3).run(19, 0).status(9).run(1, 0).status(3).serve(37, 16).status(0).cells(0, 30, ZERO);
        new Probe("another's").paint(0, 0, ReadTest.id(0, 2, 0)).set(1, 1).command(3).serve(150, 0).status(1);
        new Probe("another track's").paint(0, 0, ReadTest.id(1, 1, 0)).set(1, 1).command(3).serve(150, 0).status(1);
    }

    private static void waitAtFifthIndex() {
        new Probe("WAITS at the fifth").paint(0, 2400 - 160, Probe.field(false, 254, 0, 0, 0, 0)).command(3).run(150, 1).run(150, 1)
            .run(150, 1).run(150, 1).status(9).spoil(0, 2399, true).run(149, 0).status(9).run(1, 1).status(3).give(5).run(9, 0).status(1)
            .run(2, 0).status(1).cells(0, 9, 0).cells(0, 10, ZERO).serve(26, 15).status(0);
        new Probe("WAITS over the fifth").paint(0, 2320 - 160, Probe.field(false, 254, 0, 0, 0, 0)).command(3).run(150, 1).run(150, 1)
            .run(150, 1).run(150, 1).spoil(0, 2319, true).run(145, 0).status(3).run(5, 1).status(3).run(4, 0).status(3).run(1, 0).status(4);
    }

    private static void writingOverTheIndex() {
        new Probe("writing over the index").paint(0, 1900, ReadTest.id(0, 0, 0)).fill(2, 16).command(3).serve(150, 4).status(1)
            .cells(0, 139, ZERO).cells(0, 149, Probe.encoded(0, 2)).cells(0, 0, 0).serve(1, 1).cells(0, 0, Probe.encoded(0, 2))
            .serve(20, 11).status(0);
    }

    private static void readerAroundWriting() {
        // Marks that are read while it waits are forgotten when writing begins.
        sector("in STEP before writing", 0).paint(0, 19 * 16, Probe.MARK).command(3).run(10, 0).give(1).run(9, 0).look(6, 0).run(1, 0).look(6, 0)
            .run(27, 0).status(4);
        // Half a mark before the writing and half a mark behind it are none.
        sector("halves", 0).paint(0, 19 * 16 + 8, Probe.MARK.substring(0, 8)).paint(0, 47 * 16, Probe.MARK.substring(8)).fill(1, 16)
            .command(3).serve(47, 16).status(0).look(6, 0).run(1, 0).look(6, 0);
        sector("a mark behind it", 0).paint(0, 47 * 16, Probe.MARK).fill(1, 16).command(3).serve(47, 16).look(6, 0).run(1, 0).look(6, 1);
        // What it writes is not read.
        sector("its own marks", 0).fill(1, 16).command(3).serve(26, 1).look(6, 0).serve(2, 0).look(6, 0).serve(10, 10).look(6, 0);
    }

    private static void readBack() {
        sector("read back", 0).fill(201, 5).fill(245, 6).fill(0, 5).command(3).serve(150, 16).status(0).clear().command(2).serve(150, 16)
            .status(0).buffer(0, 201).buffer(5, 245).buffer(10, 245).buffer(11, 0);
        sector("written twice", 0).fill(3, 16).fill(4, 16).command(3).serve(150, 16).status(0).command(3).serve(150, 16).status(0)
            .cells(0, 27, Probe.encoded(1, 251)).cells(0, 28, Probe.encoded(1, 4)).cells(0, 43, Probe.encoded(0, 4)).clear().command(2)
            .serve(150, 16).status(0).buffer(0, 4);
        sector("read back deleted", 1).fill(7, 32).command(3, true, true).serve(150, 32).status(0).clear().command(2).serve(150, 32)
            .status(32).buffer(31, 7);
    }
}
