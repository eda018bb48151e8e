/**
 * The document once more from its first line: a test for each sentence that none of the other tests held, in the
 * document's order.
 */
public final class DocumentTest {
    private static final int ZERO = 43690;
    private static final String M = Probe.MARK;
    private static final String ID = ReadTest.id(0, 0, 0);
    private static final String DELETED_DATA = Probe.MARK + Probe.MARK + Probe.MARK + Probe.clockless(248);

    public static void main(String[] args) {
        whatItIs();
        eachTrackFromItsFirstCellToItsLast();
        windowOverAFieldsEnd();
        windowWhileTheHeadSteps();
        anyNumberOfMarks();
        dataSizeBehindACommandThatEndsAtOnce();
        dataSizeWhileNothingGoesOn();
        eachByteInARegister();
        restoreOfAProtectedDisk();
        restoreGoesTowardsData();
        crcOfAnyIdField();
        crcGoesWhileItAwaits();
        huntsAgainWithoutARest();
        nothingIsGotBehindTheEnd();
        nothingIsGotBehindForce();
        waitingWriteReadsNoData();
        waitingWritePassesIdFields();
        dataBehindWrite();
        writeOfEachLength();
        writeThatWaitsOverTheIndex();
        addressIsOfAnyTrackAndSector();
        lostBytesInAFormatsCheck();
        protectedWhileItWrites();
        setOnceACommandEnded();
        giveAndTakeBehindTheLastByte();
        bufferWhileItReads();
        bufferWhileItWrites();
        protectWhileBusy();
        spoilWhileBusy();
        lookWhileItWrites();
        Probe.finish("DocumentTest");
    }

    /** Goes to the track, and formats it with the sectors 1 and 2, each of 16 bytes. */
    private static void layTrack(Probe p, int track) {
        p.give(track).command(1).run(3 * track + 3, 0).force(false).look(4, track).look(1, track);
        p.format(78, 8, 0, 4, 245, 3, 254, 1, track, 1, 0, 1, 1, 1, 0, 1, 247, 1, 78, 8, 0, 4, 245, 3, 251, 1, 229, 16, 247, 1,
            78, 8, 0, 4, 245, 3, 254, 1, track, 1, 0, 1, 2, 1, 0, 1, 247, 1);
    }

    private static void whatItIs() {
        // All that the first sentence tells, on one object: what is done to a track leaves the others as they are.
        Probe p = new Probe("four tracks");
        for (int track = 0; track < 4; track++) {
            layTrack(p, track);
            p.set(1, 2).fill(10 + track, 15).fill(99, 1).command(3, track == 3, true).serve(150, 16).status(0).command(0).run(12, 0)
                .look(1, 0).look(4, 0);
            p.goTo(0);
        }
        for (int track = 3; track >= 0; track--) {
            p.clear().give(track).command(1).run(12, 0).status(0).look(4, track).set(1, 2).command(2).serve(150, 16)
                .status(track == 3 ? 32 : 0).buffer(0, 10 + track).buffer(14, 10 + track).buffer(15, 99);
            p.clear().set(1, 1).goTo(0).command(2).serve(150, 16).status(0).buffer(0, 229).buffer(15, 229);
            p.clear().goTo(0).command(4).serve(30, 5).status(0).look(2, track).buffer(0, track).buffer(2, 1).command(0).run(12, 0).look(4, 0);
        }
    }

    private static void eachTrackFromItsFirstCellToItsLast() {
        // "the TRACKS 0 .. 3, each of 2400 CELLS": each cell of the mark counts, wherever the mark stands.
        for (int track = 0; track < 4; track++) {
            for (int at : new int[] {0, 1200, 2384, 2385, 2392, 2399}) {
                Probe p = new Probe("track " + track + ", read at " + at).paint(track, at, M).give(track).command(1).run(15, 0).look(4, track);
                p.goTo(at / 16).run(1, at >= 2384 ? 1 : 0).look(6, at % 16 == 0 ? 1 : 0).run(1, 0).look(6, at % 16 == 0 ? 0 : 1);
            }
            Probe q = new Probe("track " + track + ", written").give(track).command(1).run(15, 0).format(255, 100, 255, 50);
            for (int k : new int[] {0, 1, 74, 75, 148, 149}) {
                q.cells(track, k, 21845).cells((track + 1) % 4, k, 0).cells((track + 3) % 4, k, 0);
            }
        }
    }

    private static void windowOverAFieldsEnd() {
        // "the WINDOW is the last 16 of them": the last cells of a byte may be the first ones of a mark.
        String rest = M.substring(2);
        new Probe("the last cells of a field").paint(0, 0, M + M + M + Probe.clockless(254, 0, 0, 0, 0, 0, 1) + rest).run(10, 0).look(6, 0)
            .run(1, 0).look(6, 1);
        new Probe("the last cells of a data field").paint(0, 0, M + M + M + Probe.clockless(251)).paint(0, 352 - 2, "01" + rest).run(22, 0).look(6, 0)
            .run(1, 0).look(6, 1);
        new Probe("the last cells of a byte that ends the STEP").paint(0, 0, M + Probe.clockless(1) + rest).run(2, 0).look(6, 0).run(1, 0).look(6, 1);
        new Probe("behind the ID field that READ awaits behind").paint(0, 0, ReadTest.id(0, sectorOfAnOddCheck(), 0) + rest)
            .set(1, sectorOfAnOddCheck()).command(2).run(10, 0).look(6, 0).run(1, 0).look(6, 1);
        new Probe("other cells before the rest").paint(0, 0, M + Probe.clockless(2) + rest).run(2, 0).look(6, 0).run(1, 0).look(6, 0);
    }

    /** A sector whose ID field on track 0 ends with a bit 1. */
    private static int sectorOfAnOddCheck() {
        int sector = 0;
        while (sector < 255 && (Probe.checkOf(254, 0, 0, sector, 0) & 1) == 0) {
            sector++;
        }
        return sector;
    }

    private static void anyNumberOfMarks() {
        // "if MARKS is 3 or more": many of them, and a whole track of them turn by turn.
        for (int n = 3; n <= 140; n++) {
            Probe p = new Probe(n + " marks").fill(245, Math.min(n, 100));
            if (n > 100) {
                p.fill(245, n - 100);
            }
            p.fill(254, 1).fill(7, 1).fill(0, 3).fill(9, 2).command(5).serve(150, 1).serve(150, 149).clear().command(4).serve(150, 5)
                .status(8).look(2, 7);
        }
        Probe q = new Probe("a track of marks").format(245, 100, 245, 50).run(1, 0).look(6, 1);
        for (int i = 0; i < 200; i++) {
            q.run(200, (1 + 200 * (i + 1)) / 150 - (1 + 200 * i) / 150).look(6, 1);
        }
    }

    private static void windowWhileTheHeadSteps() {
        // "the WINDOW is the last 16 of them": those of one track and of the next, when the head went there.
        for (int j = 1; j < 16; j++) {
            new Probe("a mark on two tracks, " + j).paint(0, 48 - j, M.substring(0, j)).paint(1, 48, M.substring(j)).give(1).command(1)
                .run(3, 0).look(4, 1).look(6, 0).run(1, 0).look(6, 1);
        }
        new Probe("a mark on one track, the head being gone").paint(0, 40, M).give(1).command(1).run(4, 0).look(4, 1).look(6, 0);
        new Probe("a mark on the other, the head not being there").paint(1, 40, M).give(1).command(1).run(4, 0).look(4, 1).look(6, 0);
    }

    private static void dataSizeBehindACommandThatEndsAtOnce() {
        // "since the latest command was taken": so it is with one that the disk's protection ENDS.
        String fields = ReadTest.id(9, 9, 1) + M + M + M + Probe.clockless(251);
        for (int c : new int[] {3, 5}) {
            new Probe("protected, 16 then, " + c).paint(0, 0, fields).protect(true).command(2).run(10, 0).force(true).command(c).status(64)
                .run(21, 0).look(6, 1).run(1, 0).look(6, 0);
            new Probe("protected before the ID field, 32 then, " + c).paint(0, 0, fields).protect(true).command(c).status(64)
                .run(47, 0).look(6, 1).run(1, 0).look(6, 0);
        }
    }

    private static void dataSizeWhileNothingGoesOn() {
        // "that was over since the latest command was taken": whether it goes on still or not.
        String fields = ReadTest.id(9, 9, 1) + M + M + M + Probe.clockless(251);
        new Probe("forced before the ID field is over").paint(0, 0, fields).command(2).run(9, 0).force(true).run(38, 0).look(6, 1)
            .run(1, 0).look(6, 0);
        new Probe("forced behind that").paint(0, 0, fields).command(2).run(10, 0).force(true).run(37, 0).look(6, 1).run(1, 0).look(6, 0);
    }

    private static void eachByteInARegister() {
        // "the registers TRACK, SECTOR and DATA (0 .. 255)"
        for (int register = 0; register < 2; register++) {
            Probe p = new Probe("each byte, register " + register);
            for (int v = 0; v < 256; v++) {
                p.set(register, v).look(1 + register, v);
            }
        }
        Probe given = new Probe("each byte, DATA");
        Probe buffered = new Probe("each byte, the BUFFER");
        for (int v = 0; v < 256; v++) {
            given.give(v).take(v);
            if (v < 200) {
                buffered.fill(255 - v, 1).buffer(v, 255 - v);
            }
        }
    }

    private static void restoreOfAProtectedDisk() {
        // A protected disk is nothing to RESTORE and SEEK.
        new Probe("RESTORE, protected").protect(true).give(2).command(1).run(9, 0).status(0).look(1, 2).look(4, 2).command(0).status(1)
            .look(1, 255).look(3, 0).run(9, 0).status(0).look(1, 0).look(4, 0);
    }

    private static void restoreGoesTowardsData() {
        // "Otherwise TRACK goes 1 towards DATA, and the head one track the same way": RESTORE too, if DATA was given.
        Probe p = new Probe("RESTORE, and back").give(3).command(1).run(12, 0).look(4, 3).command(0).run(3, 0).look(1, 254).look(4, 2);
        p.give(255).run(3, 0).look(1, 255).look(4, 3).status(1).look(3, 255).run(3, 0).status(0).look(1, 255).look(4, 3);
        Probe q = new Probe("RESTORE keeps what is given").give(3).command(1).run(12, 0).command(0).run(1, 0).give(254).run(2, 0)
            .look(1, 254).look(4, 2).look(3, 254).status(1);
        q.run(3, 0).status(0).look(1, 254).look(4, 2).look(3, 254);
    }

    private static void crcOfAnyIdField() {
        // "CRC is set if the check is wrong": whatever the field's track and sector are.
        int[][] all = {{0, 0}, {0, 9}, {9, 0}, {9, 9}};
        for (int[] a : all) {
            String wrong = Probe.field(false, 254, a[0], 0, a[1], 0);
            new Probe("hunting, " + a[0] + " " + a[1]).paint(0, 0, wrong).command(2).run(9, 0).status(1).run(1, 0).status(9);
            new Probe("hunting, WRITE, " + a[0] + " " + a[1]).paint(0, 0, wrong).command(3).run(9, 0).status(1).run(1, 0).status(9);
            new Probe("awaiting, " + a[0] + " " + a[1]).paint(0, 0, ID + wrong).command(2).run(19, 0).status(1).run(1, 0).status(9);
        }
    }

    private static void crcGoesWhileItAwaits() {
        // "otherwise CRC goes": while it awaits too, with a field of its own or another's.
        int[][] all = {{0, 0}, {0, 9}, {9, 0}, {9, 9}};
        for (int[] a : all) {
            new Probe("CRC goes, " + a[0] + " " + a[1]).paint(0, 0, ID + Probe.field(false, 254, 0, 0, 0, 0) + ReadTest.id(a[0], a[1], 0))
                .command(2).run(20, 0).status(9).run(9, 0).status(9).run(1, 0).status(1);
        }
    }

    private static void huntsAgainWithoutARest() {
        // "At the end of the 31st byte time .. it hunts again": the reader goes on with what it has, here a field that
        // begins while it awaits, or the marks before it. The 31st byte time ends with cell 639.
        for (int begins : new int[] {639 - 95, 639 - 63, 639 - 15, 639, 639 + 1, 639 + 16, 639 + 17, 639 + 32, 639 + 48}) {
            Probe p = new Probe("an ID field around the 31st, " + begins).paint(0, 0, ID).paint(0, begins - 63, ID)
                .paint(0, 16 * 60, ReadTest.data(true, 251, 16, 1, 2)).command(2);
            p.serve(90, 16).status(0);
        }
        new Probe("DATA SIZE stays").paint(0, 0, ReadTest.id(0, 0, 1)).paint(0, 16 * 60, M + M + M + Probe.clockless(251)).command(2).run(97, 0)
            .look(6, 1).run(1, 0).look(6, 0).status(1);
    }

    private static void nothingIsGotBehindTheEnd() {
        String data = ReadTest.data(true, 251, 16, 7, 9);
        new Probe("another data field").paint(0, 0, ID + data).paint(0, 600, data).command(2).serve(32, 16).status(0)
            .serve(60, 0).status(0).look(3, 9).look(2, 0);
        new Probe("another ID field").paint(0, 0, ReadTest.id(6, 1, 0) + Probe.field(false, 254, 7, 0, 0, 0)).command(4).serve(10, 5)
            .status(0).look(2, 6).serve(20, 0).status(0).look(2, 6).look(3, Probe.checkOf(254, 6, 0, 1, 0) & 255);
    }

    private static void nothingIsGotBehindForce() {
        // "The command that goes on ENDS, with nothing else set": the field goes on without it.
        Probe p = new Probe("READ, forced within the data").paint(0, 0, ID + ReadTest.data(false, 251, 16, 7, 9)).command(2).run(15, 0).status(3)
            .force(true).status(0);
        p.run(1, 0).status(0).look(3, 7).look(6, 1).serve(15, 0).status(0).look(3, 7).look(6, 1).run(1, 0).status(0).look(6, 0);
        new Probe("ADDRESS, forced within the field").paint(0, 0, Probe.field(false, 254, 6, 0, 0, 0)).set(1, 9).command(4).run(5, 0).look(3, 6)
            .force(true).run(4, 0).look(6, 1).run(1, 0).status(0).look(6, 0).look(2, 9).look(3, 6);
        new Probe("READ, forced while it awaits").paint(0, 0, ID + DELETED_DATA).command(2).run(10, 0).force(true).run(5, 0).status(0).look(3, 0);
        new Probe("READ, forced while it hunts").paint(0, 0, Probe.field(false, 254, 0, 0, 0, 0)).command(2).run(9, 0).force(true).run(1, 0).status(0);
    }

    private static void waitingWriteReadsNoData() {
        // "where READ would await, it WAITS": a data field that begins then is none of its business.
        for (int at = 10; at <= 16; at++) {
            Probe p = new Probe("data while it waits, at " + at).paint(0, 0, ID).paint(0, 16 * at, DELETED_DATA).command(3).run(10, 0).status(3);
            p.give(77).run(9, 0).status(1).look(3, 77).run(1, 0).status(1).look(3, 77).run(1, 0).cells(0, 20, ZERO).status(1);
        }
        new Probe("LOST all the same").paint(0, 0, ID + DELETED_DATA).command(3).run(19, 0).status(3).look(3, 0).run(1, 0).status(4).look(3, 0);
    }

    private static void waitingWritePassesIdFields() {
        // The ID field is over "while it hunts or awaits": it does neither, and waits from the first one on.
        String[] others = {ID, ReadTest.id(9, 9, 0), Probe.field(false, 254, 0, 0, 0, 0)};
        for (int i = 0; i < others.length; i++) {
            new Probe("an ID field while it waits, " + i).paint(0, 0, ID + others[i]).command(3).run(10, 0).status(3).give(7).run(9, 0).status(1)
                .run(1, 0).status(1).run(1, 0).status(1).cells(0, 20, ZERO).cells(0, 19, cellsOf(others[i], 9));
            new Probe("LOST in the 11th, " + i).paint(0, 0, ID + others[i]).command(3).run(19, 0).status(3).run(1, 0).status(4);
        }
    }

    private static void dataBehindWrite() {
        Probe p = new Probe("DATA stays").paint(0, 0, ID).fill(8, 15).fill(77, 1).command(3).serve(43, 16).look(3, 77).serve(3, 0).look(3, 77)
            .status(1);
        p.serve(1, 0).status(0).look(3, 77).take(77).look(1, 0).look(2, 0);
    }

    private static void writeOfEachLength() {
        for (int length : new int[] {0, 1, 2, 3, 128, 255}) {
            int size = length % 2 == 0 ? 16 : 32;
            new Probe("WRITE of length " + length).paint(0, 0, ReadTest.id(0, 0, length)).fill(9, 32).command(3).serve(30 + size, size).status(1)
                .serve(1, 0).status(0).cells(0, 27 + size, Probe.encoded(1, 9)).cells(0, 31 + size, 0);
        }
    }

    private static void writeThatWaitsOverTheIndex() {
        // The first ID field is over in byte 144 of the track, the second one, whose length counts, in byte 4.
        new Probe("the length is read over the INDEX").paint(0, 135 * 16, ID + ReadTest.id(9, 9, 1)).fill(9, 32).command(3).run(144, 0)
            .serve(6, 1).serve(5, 0).status(1).serve(42, 31).status(1).serve(1, 0).status(0).look(5, 48 * 16);
    }

    /** Word k of a text of cells. */
    private static int cellsOf(String text, int k) {
        return Integer.parseInt(text.substring(16 * k, 16 * k + 16), 2);
    }

    private static void addressIsOfAnyTrackAndSector() {
        // "when an ID field begins, it is READING": whatever TRACK and SECTOR are.
        for (int v : new int[] {0, 5, 6, 255}) {
            new Probe("TRACK and SECTOR " + v).paint(0, 0, ReadTest.id(5, 6, 0)).set(0, v).set(1, v).command(4).serve(9, 5).status(1).look(2, v)
                .serve(1, 0).status(0).look(1, v).look(2, 5);
        }
    }

    private static void lostBytesInAFormatsCheck() {
        // "The check is that of all that was written": a 0 that was written for a lost byte is one of them.
        int check = Probe.plainCheck(java.util.List.of(161, 0, 5));
        new Probe("a lost byte in the check").command(5).give(245).run(152, 1).status(7).give(5).run(1, 0).give(247).run(2, 0)
            .cells(0, 1, Probe.encoded(1, 0)).cells(0, 3, Probe.encoded(1, check >> 8)).cells(0, 4, Probe.encoded(check >> 8 & 1, check & 255));
    }

    private static void protectedWhileItWrites() {
        // "if the disk is protected, PROTECTED is set": that is asked as the command is taken, and not again.
        new Probe("WRITE").paint(0, 0, ID).fill(8, 16).command(3).serve(30, 3).protect(true).status(1).serve(17, 13).status(0)
            .cells(0, 30, Probe.encoded(0, 8)).cells(0, 43, Probe.encoded(0, 8)).command(3).status(64);
        new Probe("FORMAT").fill(8, 100).command(5).serve(155, 6).protect(true).status(1).serve(5, 5).status(1)
            .cells(0, 5, Probe.encoded(0, 8)).cells(0, 9, Probe.encoded(0, 8)).force(true).command(5).status(64);
    }

    private static void setOnceACommandEnded() {
        // Promise 4: the register alone, whatever the latest command was.
        for (int c = 0; c < 6; c++) {
            Probe p = new Probe("set behind command " + c).give(33).command(c).force(true).give(33);
            p.set(0, 44).set(1, 55).look(1, 44).look(2, 55).look(3, 33).look(4, 0).status(0).look(7, c);
        }
    }

    private static void giveAndTakeBehindTheLastByte() {
        // Promises 5 and 6: DATA, though no byte is asked for or got any more.
        new Probe("give() behind a sector's last byte").paint(0, 0, ID).fill(8, 16).command(3).serve(44, 16).give(99).look(3, 99).take(99)
            .serve(1, 0).give(98).look(3, 98).serve(2, 0).status(0).look(3, 98).cells(0, 43, Probe.encoded(0, 8));
        new Probe("take() behind a field's last byte").paint(0, 0, ID + ReadTest.data(true, 251, 16, 7, 9)).command(2).serve(29, 15).run(1, 0)
            .run(1, 0).status(3).take(9).status(1).take(9).run(1, 0).status(0).take(9);
    }

    private static void bufferWhileItReads() {
        // Promises 8, 9 and 10: the BUFFER is emptied and filled while a command goes on.
        Probe p = new Probe("READ").paint(0, 0, ID + ReadTest.data(true, 251, 16, 7, 9)).command(2).serve(16, 2).buffer(-1, 2);
        p.fill(5, 2).buffer(-1, 4).serve(1, 1).buffer(-1, 5).buffer(0, 7).buffer(2, 5).buffer(4, 0).clear().buffer(-1, 0).serve(13, 13)
            .buffer(-1, 13).buffer(12, 9).status(1).serve(2, 0).status(0);
    }

    private static void bufferWhileItWrites() {
        Probe p = new Probe("WRITE").paint(0, 0, ID).fill(1, 1).fill(2, 1).command(3).serve(29, 2).look(3, 2).fill(3, 1).serve(1, 1).look(3, 3)
            .serve(1, 1).look(3, 0).clear().buffer(-1, 0).fill(4, 2).serve(1, 1).look(3, 4);
        p.serve(15, 11).status(0).cells(0, 28, Probe.encoded(1, 1)).cells(0, 29, Probe.encoded(1, 2)).cells(0, 30, Probe.encoded(0, 3))
            .cells(0, 31, Probe.encoded(1, 0)).cells(0, 32, Probe.encoded(0, 4)).cells(0, 33, Probe.encoded(0, 4))
            .cells(0, 34, Probe.encoded(0, 0));
    }

    private static void protectWhileBusy() {
        // Promise 12: it is the disk that is protected or not, whatever goes on.
        for (int c : new int[] {0, 1, 2, 4}) {
            new Probe("protected during " + c).command(c).protect(true).force(true).command(3).status(64);
            new Probe("no more protected during " + c).protect(true).command(c).protect(false).force(true).command(3).status(1);
        }
        for (int c : new int[] {3, 5}) {
            new Probe("protected during " + c).command(c).protect(true).force(true).command(3).status(64);
            new Probe("no more protected during " + c).command(c).protect(true).protect(false).force(true).command(5).status(3);
        }
    }

    private static void spoilWhileBusy() {
        // Promise 13: before the head comes the cell is turned over and written over then, behind it it stays turned over.
        Probe p = new Probe("spoil in FORMAT").command(5).spoil(0, 0, true).spoil(1, 0, true).cells(0, 0, 32768).cells(1, 0, 32768).give(255)
            .run(150, 1).serve(1, 1);
        p.cells(0, 0, 21845).spoil(0, 0, true).cells(0, 0, 54613).spoil(0, 16, true).cells(0, 1, 32768).spoil(3, 2399, true).cells(3, 149, 1)
            .serve(1, 1).cells(0, 0, 54613).cells(0, 1, Probe.encoded(1, 0)).cells(1, 0, 32768);
        new Probe("spoil in WRITE").paint(0, 0, ID).command(3).serve(21, 1).cells(0, 20, ZERO).spoil(0, 320, true).cells(0, 20, ZERO - 32768)
            .spoil(0, 336, true).serve(1, 0).cells(0, 21, ZERO).cells(0, 20, ZERO - 32768).spoil(2, 0, true).cells(2, 0, 32768);
        new Probe("spoil in READ").paint(0, 0, ID + ReadTest.data(true, 251, 16, 7, 9)).command(2).serve(15, 1).spoil(0, 240 + 1, true).serve(1, 1)
            .look(3, 128).spoil(0, 240 + 1, true).serve(16, 14).status(8);
    }

    private static void lookWhileItWrites() {
        // Promise 15: the place goes on cell by cell while it writes, and the reader is not in STEP.
        Probe p = new Probe("look in FORMAT").command(5).give(245).run(150, 1);
        for (int k = 0; k < 150; k++) {
            p.look(5, 16 * k).look(6, 0).run(1, k == 149 ? 1 : 0);
        }
        p.look(5, 0).look(6, 0).status(4);
    }
}
