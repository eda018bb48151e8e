import java.util.Arrays;

/** READ and ADDRESS. */
public final class ReadTest {
    public static void main(String[] args) {
        readByByte();
        readLoses();
        readMatches();
        readDeleted();
        readDataSize();
        readWrongData();
        readWrongId();
        awaitTime();
        awaitAnew();
        awaitOverOtherIds();
        readMissing();
        readAtFifthIndex();
        addressByByte();
        addressOfAny();
        addressMissing();
        Probe.finish("ReadTest");
    }

    /** A data field of the size, its bytes 0 but for the first and the last one. */
    static String data(boolean right, int start, int size, int first, int last) {
        int[] bytes = new int[size + 1];
        bytes[0] = start;
        bytes[1] = first;
        bytes[size] = last;
        return Probe.field(right, bytes);
    }

    static String id(int track, int sector, int length) {
        return Probe.field(true, 254, track, 0, sector, length);
    }

    /** An ID field that is over with cell 159, and a data field whose first byte comes with cell 240. */
    private static Probe sector(String name, int start, boolean right) {
        return new Probe(name).paint(0, 0, id(0, 1, 0)).paint(0, 160, data(right, start, 16, 7, 9)).set(1, 1);
    }

    private static void readByByte() {
        Probe p = sector("READ", 251, true).give(99).command(2).run(14, 0).status(1).look(3, 99).run(1, 0).status(3).look(3, 7)
            .take(7).status(1);
        for (int i = 1; i < 15; i++) {
            p.run(1, 0).status(3).take(0).status(1);
        }
        // The bytes of the check are not got.
        p.run(1, 0).status(3).take(9).run(1, 0).status(1).look(3, 9).look(6, 1).run(1, 0).status(0).look(3, 9).look(6, 0);
        p.look(1, 0).look(2, 1).run(200, 1).status(0);
        sector("READ, DRQ goes at the end", 251, true).command(2).run(30, 0).status(7).run(1, 0).status(7).run(1, 0).status(4).look(3, 9);
    }

    private static void readLoses() {
        sector("LOST", 251, true).command(2).run(15, 0).status(3).run(1, 0).status(7).look(3, 0).take(0).status(5).serve(200, 14).status(4);
        sector("LOST goes with the next command", 251, true).command(2).run(200, 1).status(4).command(2).status(1);
        sector("give serves too", 251, true).command(2).run(15, 0).give(50).status(1).look(3, 50).run(1, 0).status(3).look(3, 0);
    }

    private static void readMatches() {
        int[][] all = {{0, 0, 1, 1}, {3, 0, 3, 0}, {3, 4, 3, 4}, {255, 255, 255, 255}, {3, 4, 4, 4}, {3, 4, 3, 5}, {3, 4, 4, 3}, {0, 1, 1, 1}};
        for (int[] a : all) {
            boolean same = a[0] == a[2] && a[1] == a[3];
            new Probe("match " + Arrays.toString(a)).paint(0, 0, Probe.field(true, 254, a[0], 77, a[1], 0))
                .paint(0, 160, data(true, 251, 16, 0, 0)).set(0, a[2]).set(1, a[3]).command(2).serve(150, same ? 16 : 0)
                .status(same ? 0 : 1).look(1, a[2]).look(2, a[3]);
        }
        // The second of two sectors, the first one's data being passed over.
        new Probe("the second").paint(0, 0, id(0, 1, 0)).paint(0, 160, data(true, 251, 16, 1, 2)).paint(0, 600, id(0, 2, 0))
            .paint(0, 777, data(true, 251, 16, 3, 4)).set(1, 2).command(2).serve(52, 0).serve(2, 1).serve(96, 15).status(0)
            .buffer(0, 3).buffer(15, 4).buffer(-1, 16);
        // A data field without an ID field before it is none of its business.
        new Probe("data alone").paint(0, 0, data(true, 248, 16, 1, 2)).command(2).serve(149, 0).status(1);
    }

    private static void readDeleted() {
        sector("DELETED", 248, true).command(2).run(13, 0).status(1).run(1, 0).status(33).serve(18, 16).status(32).command(2).status(1);
        sector("not DELETED", 251, true).command(2, true, true).run(14, 0).status(1).serve(18, 16).status(0);
    }

    private static void readDataSize() {
        for (int length : new int[] {0, 1, 2, 3, 255}) {
            int size = length % 2 == 1 ? 32 : 16;
            new Probe("READ of length " + length).paint(0, 0, id(0, 0, length)).paint(0, 160, data(true, 251, size, 5, 6)).command(2)
                .serve(14 + size + 1, size).status(1).serve(1, 0).status(0).buffer(0, 5).buffer(size - 1, 6).buffer(-1, size);
        }
    }

    private static void readWrongData() {
        sector("a wrong data check", 251, false).command(2).serve(31, 16).status(1).serve(1, 0).status(8).buffer(15, 9);
        sector("a wrong deleted one", 248, false).command(2).serve(32, 16).status(40);
        sector("a bit turned", 251, true).spoil(0, 300 + 1, true).command(2).serve(32, 16).status(8);
        sector("a clock turned", 251, true).spoil(0, 300, true).command(2).serve(32, 16).status(0);
        sector("the check's higher byte", 251, true).spoil(0, 160 + 64 + 256 + 1, true).command(2).serve(32, 16).status(8);
        sector("the check's lower byte", 251, true).spoil(0, 160 + 64 + 256 + 31, true).command(2).serve(32, 16).status(8);
        // The byte with which it began counts in the check: 251 for 248.
        Probe p = sector("the first byte counts", 251, true);
        for (int i = 0; i < 8; i++) {
            if (((251 ^ 248) >> 7 - i & 1) == 1) {
                p.spoil(0, 160 + 48 + 2 * i + 1, true);
            }
        }
        p.command(2).serve(32, 16).status(40);
    }

    private static void readWrongId() {
        sector("a wrong ID", 251, true).spoil(0, 159, true).command(2).run(9, 0).status(1).run(1, 0).status(9).serve(100, 0).status(9)
            .serve(40, 0).status(9).serve(10, 0).status(9).run(200, 1).run(200, 1).run(39, 0).status(9).run(1, 1).status(9).run(149, 0).status(9).run(1, 1).status(24);
        // The next right one takes CRC away, whether it is sought or not.
        new Probe("then a right one").paint(0, 0, Probe.field(false, 254, 0, 0, 1, 0)).paint(0, 160, id(0, 1, 0))
            .paint(0, 320, data(true, 251, 16, 1, 1)).set(1, 1).command(2).run(10, 0).status(9).run(10, 0).status(1).serve(22, 16).status(0);
        new Probe("then another's").paint(0, 0, Probe.field(false, 254, 0, 0, 1, 0)).paint(0, 160, id(0, 2, 0)).set(1, 1)
            .command(2).run(10, 0).status(9).run(10, 0).status(1).run(140, 1).status(9);
        new Probe("another's wrong ID").paint(0, 0, Probe.field(false, 254, 0, 0, 2, 0)).set(1, 1).command(2).run(10, 0).status(9);
    }

    private static void awaitTime() {
        // The ID field is over with cell 164, in byte time 10; the 31st is byte time 40, with the cells up to 655.
        new Probe("the 31st byte time").paint(0, 5, id(0, 0, 0)).paint(0, 655 - 63, data(true, 251, 16, 1, 2)).command(2)
            .serve(60, 16).status(0);
        new Probe("the 32nd byte time").paint(0, 5, id(0, 0, 0)).paint(0, 656 - 63, data(true, 248, 16, 1, 2)).command(2)
            .serve(150, 0).status(1).serve(149, 0).status(1);
        // The ID field is over with the last cell of byte time 9, or the first of byte time 10.
        new Probe("over with a last cell").paint(0, 0, id(0, 0, 0)).paint(0, 640 - 63, data(true, 251, 16, 1, 2)).command(2).serve(150, 0).status(1);
        new Probe("over with a first cell").paint(0, 1, id(0, 0, 0)).paint(0, 640 - 63, data(true, 251, 16, 1, 2)).command(2).serve(150, 16).status(0);
        // It hunts again: the same ID field a turn later is found once more.
        new Probe("it hunts again").paint(0, 0, id(0, 0, 0)).command(2).run(150, 1).paint(0, 320, data(true, 251, 16, 1, 2)).serve(60, 16).status(0);
    }

    private static void awaitAnew() {
        // Over with cells 164 and 324: the 31st byte time is counted from the second, up to cell 815.
        new Probe("anew, in time").paint(0, 5, id(0, 0, 0)).paint(0, 165, id(0, 0, 0)).paint(0, 815 - 63, data(true, 251, 16, 1, 2)).command(2)
            .serve(100, 16).status(0);
        new Probe("anew, too late").paint(0, 5, id(0, 0, 0)).paint(0, 165, id(0, 0, 0)).paint(0, 816 - 63, data(true, 251, 16, 1, 2)).command(2)
            .serve(100, 0).status(1);
    }

    private static void awaitOverOtherIds() {
        // Another's ID field does not end the awaiting, but it tells the size.
        new Probe("another's between").paint(0, 5, id(0, 0, 0)).paint(0, 165, id(0, 9, 1)).paint(0, 655 - 63, data(true, 251, 32, 1, 2)).command(2)
            .serve(100, 32).status(0);
        new Probe("another's, too late").paint(0, 5, id(0, 0, 0)).paint(0, 165, id(0, 9, 0)).paint(0, 656 - 63, data(true, 251, 16, 1, 2)).command(2)
            .serve(100, 0).status(1);
        // A wrong one sets CRC, and nothing takes it away.
        new Probe("a wrong one between").paint(0, 5, id(0, 0, 0)).paint(0, 165, Probe.field(false, 254, 0, 0, 0, 1))
            .paint(0, 655 - 63, data(true, 251, 16, 1, 2)).command(2).run(11, 0).status(1).run(10, 0).status(9).serve(100, 16).status(8);
    }

    private static void readMissing() {
        Probe p = new Probe("MISSING").command(2);
        for (int turn = 1; turn < 5; turn++) {
            p.run(150, 1).status(1);
        }
        p.run(149, 0).status(1).run(1, 1).status(16).look(7, 2).force(false);
        new Probe("MISSING from elsewhere").run(149, 0).command(2).run(1, 1).run(150, 1).run(150, 1).run(150, 1).run(149, 0).status(1)
            .run(1, 1).status(16);
        // Indexes before the command do not count.
        new Probe("indexes before").run(200, 1).run(200, 1).run(200, 2).command(2).run(150, 1).status(1).run(150, 1).status(1);
        new Probe("MISSING while it hunts for WRITE").command(3).run(150, 1).run(150, 1).run(150, 1).run(150, 1).status(1).run(150, 1).status(16);
    }

    private static void readAtFifthIndex() {
        // Without its last bit the ID field is wrong; with it, in the fifth turn, it is right.
        Probe p = new Probe("awaiting at the fifth").paint(0, 2400 - 160, Probe.field(false, 254, 0, 0, 0, 0)).command(2)
            .run(150, 1).run(150, 1).run(150, 1).run(150, 1).status(9).spoil(0, 2399, true).run(149, 0).status(9).run(1, 1).status(16);
        p.command(2).status(1);
        // READING at the fifth INDEX it goes on.
        new Probe("reading over the fifth").paint(0, 1900, Probe.field(false, 254, 0, 0, 0, 0)).paint(0, 2200, data(true, 251, 16, 3, 4))
            .command(2).run(150, 1).run(150, 1).run(150, 1).run(150, 1).spoil(0, 2059, true).serve(149, 7).status(1).serve(1, 1).status(1)
            .serve(20, 8).status(0).buffer(15, 4);
        // The field is over with the cell before the fifth INDEX.
        new Probe("over at the fifth").paint(0, 1600, Probe.field(false, 254, 0, 0, 0, 0)).paint(0, 2400 - 352, data(true, 251, 16, 3, 4))
            .command(2).run(150, 1).run(150, 1).run(150, 1).run(150, 1).spoil(0, 1759, true).serve(149, 16).status(1).serve(1, 0).status(0);
    }

    private static void addressByByte() {
        int check = Probe.checkOf(254, 3, 1, 5, 2);
        Probe p = new Probe("ADDRESS").paint(0, 0, Probe.field(true, 254, 3, 1, 5, 2)).set(0, 8).set(1, 9).give(99).command(4).run(4, 0)
            .status(1).look(3, 99).run(1, 0).status(3).take(3).run(1, 0).take(1).run(1, 0).take(5).run(1, 0).take(2).run(1, 0).status(3)
            .look(2, 9).take(check >> 8).run(1, 0).status(0).look(3, check & 255).look(2, 3).look(1, 8).look(6, 0);
        p.goTo(0).command(4).run(5, 0).status(3).run(1, 0).status(7).run(10, 0).status(4).look(2, 3);
        new Probe("ADDRESS served").paint(0, 0, Probe.field(true, 254, 3, 1, 5, 2)).command(4).serve(150, 5).buffer(-1, 5).buffer(0, 3)
            .buffer(3, 2).buffer(4, check >> 8).status(0);
        new Probe("ADDRESS, wrong").paint(0, 0, Probe.field(false, 254, 3, 1, 5, 2)).command(4).serve(9, 5).status(1).serve(1, 0).status(8)
            .look(2, 3).look(3, check & 255 ^ 1);
    }

    private static void addressOfAny() {
        new Probe("the next one").paint(0, 0, id(6, 1, 0)).paint(0, 800, id(7, 2, 0)).command(4).serve(20, 5).look(2, 6).command(4)
            .serve(60, 5).look(2, 7).command(4).serve(110, 5).look(2, 6);
        new Probe("data is passed over").paint(0, 0, data(true, 248, 16, 1, 1)).paint(0, 400, id(6, 1, 0)).command(4).serve(25, 0).status(1)
            .serve(20, 5).status(0).look(2, 6);
        // Taken within an ID field, it awaits the next one.
        new Probe("within a field").paint(0, 0, id(6, 1, 0)).run(4, 0).command(4).run(20, 0).status(1).run(140, 1).status(4);
    }

    private static void addressMissing() {
        new Probe("ADDRESS, MISSING").command(4).run(150, 1).run(150, 1).run(150, 1).run(150, 1).run(149, 0).status(1).run(1, 1).status(16).look(2, 0);
        // The ID field goes over the fifth INDEX.
        new Probe("ADDRESS over the fifth").command(4).run(150, 1).run(150, 1).run(150, 1).run(150, 1).paint(0, 2300, id(5, 1, 0))
            .serve(149, 1).status(1).serve(1, 1).status(1).serve(10, 3).status(0).look(2, 5);
    }
}
