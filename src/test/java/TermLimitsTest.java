/**
 * The limits that 'Terms' names for the disk, the reader and the registers, a test for each sentence: just inside the
 * limit, at it and just beyond it. CommandLimitsTest has those of the commands.
 */
public final class TermLimitsTest {
    private static final String M = Probe.MARK;
    private static final String M3 = M + M + M;
    private static final int MARK = 17545;

    public static void main(String[] args) {
        placeWraps();
        cellsAreReadOverTheIndex();
        cellsAreWrittenOverTheIndex();
        clockOfTheFirstBit();
        bitBeforeAByte();
        windowAtFirst();
        windowWhenWritingEnds();
        windowIsOfReadCells();
        readerAtFirst();
        readerWhenACommandIsTaken();
        readerWhenWritingBegins();
        onlyAMarkIsAMark();
        sixteenCellsForAByte();
        threeMarksOrMore();
        marksAre0BehindAByte();
        markWhileAFieldGoesOn();
        byteThatBeginsAField();
        sixBytesOfAnId();
        dataSizeByLength();
        dataSizeOfTheLatestRightId();
        dataSizeSinceTheCommand();
        eachBitOfACheck();
        higherByteFirst();
        startByteInTheCheck();
        registersAt255();
        marksGoWithACommand();
        busyAndDrqGoAtTheEnd();
        getWhileDrqIsSet();
        askWhileDrqIsSet();
        Probe.finish("TermLimitsTest");
    }

    private static void placeWraps() {
        Probe p = new Probe("when it would be 2400 it is 0");
        for (int i = 1; i < 150; i++) {
            p.run(1, 0).look(5, 16 * i);
        }
        p.run(1, 1).look(5, 0).run(1, 0).look(5, 16).run(148, 0).look(5, 2384).run(2, 1).look(5, 16);
        new Probe("so it is in serve").serve(149, 0).look(5, 2384).serve(1, 0).look(5, 0).serve(151, 0).look(5, 16);
    }

    private static void cellsAreReadOverTheIndex() {
        // A mark of which j cells stand at the end of the track and the others at its beginning.
        for (int j = 1; j < 16; j++) {
            new Probe("read over the INDEX, " + j).paint(0, 2400 - j, M).goTo(149).run(1, 1).look(6, 0).run(1, 0).look(6, 1);
        }
        new Probe("read up to the INDEX").paint(0, 2384, M).goTo(149).look(6, 0).run(1, 1).look(6, 1);
        new Probe("read from the INDEX on").paint(0, 0, M).goTo(149).run(1, 1).look(6, 0).run(1, 0).look(6, 1);
        // Cells of the next track do not follow those of this one.
        new Probe("the same track again").paint(0, 2392, M.substring(0, 8)).paint(1, 0, M.substring(8)).goTo(149).run(2, 1).look(6, 0);
        new Probe("a field over the INDEX").paint(0, 2400 - 80, ReadTest.id(7, 0, 0)).goTo(140).command(4).serve(10, 1).status(1).serve(5, 4)
            .status(0).look(2, 7);
    }

    private static void cellsAreWrittenOverTheIndex() {
        // Writing begins in byte 140 of the track, so its 11th byte, with the fourth byte of data, stands at place 0.
        Probe p = new Probe("written over the INDEX").paint(0, 120 * 16, ReadTest.id(0, 0, 0)).fill(255, 16).command(3).serve(150, 3).status(1)
            .cells(0, 149, Probe.encoded(1, 255)).cells(0, 0, 0).cells(1, 0, 0).serve(1, 1).cells(0, 0, Probe.encoded(1, 255)).look(5, 16);
        p.serve(16, 12).status(0).cells(0, 16, Probe.encoded(check16() & 1, 78)).cells(0, 17, 0).cells(1, 0, 0).cells(3, 149, 0);
    }

    /** The check of a data field of 16 bytes 255. */
    private static int check16() {
        int[] bytes = new int[17];
        java.util.Arrays.fill(bytes, 255);
        bytes[0] = 251;
        return Probe.checkOf(bytes);
    }

    private static void clockOfTheFirstBit() {
        for (int first : new int[] {0, 1, 127, 128, 255}) {
            int due = Probe.encoded(0, first);
            new Probe("0 at the beginning of writing, " + first).command(5).give(first).run(151, 1).cells(0, 0, due);
            // Neither a bit that was written earlier nor one that stands on the disk before it counts.
            new Probe("0 again, " + first).format(255, 100, 255, 50).command(5).give(first).run(151, 1).cells(0, 149, 21845).cells(0, 0, due);
        }
        new Probe("0 at the beginning of a sector").format(255, 8, 245, 3, 254, 1, 0, 4, 247, 1, 255, 100, 255, 32).fill(9, 16).command(3)
            .serve(29, 1).cells(0, 27, 21845).cells(0, 28, 43690);
    }

    private static void bitBeforeAByte() {
        new Probe("the bit of the byte before").format(1, 1, 0, 1, 0, 1, 254, 1, 0, 1, 128, 1).cells(0, 0, 43689).cells(0, 1, 10922)
            .cells(0, 2, 43690).cells(0, 3, 21844).cells(0, 4, 43690).cells(0, 5, 19114);
        new Probe("that of a MARK is 1").format(245, 1, 0, 1, 245, 1, 128, 1).cells(0, 0, MARK).cells(0, 1, 10922).cells(0, 2, MARK)
            .cells(0, 3, Probe.encoded(1, 128));
        new Probe("a MARK asks for none").format(0, 1, 245, 1, 255, 1, 245, 2, 0, 1).cells(0, 1, MARK).cells(0, 3, MARK).cells(0, 4, MARK);
    }

    private static void windowAtFirst() {
        // The MARK's first cell is 0, and it may be one that was never read; its second one is not.
        new Probe("0s at first").paint(0, 0, M.substring(1)).run(1, 0).look(6, 1);
        new Probe("0s at first, not a 1").paint(0, 0, M.substring(2)).run(1, 0).look(6, 0);
        // Cell 2399 was not read when the head stood at place 0.
        new Probe("no cell was read").paint(0, 2399, M).run(1, 0).look(6, 1).goTo(0).run(1, 0).look(6, 1);
    }

    private static void windowWhenWritingEnds() {
        // The last cell that was read before the writing is a 1, and so is the last one that was written.
        int rest = MARK << 1 & 65535;
        new Probe("0s when writing ends").format(255, 100, 255, 50).format(255, 100, 255, 50).repaint(0, 0, 21845, rest).run(1, 0).look(6, 1);
        new Probe("0s when writing is stopped").format(255, 100, 255, 50).command(5).serve(151, 2).force(true)
            .repaint(0, 1, 21845, rest).run(1, 0).look(6, 1);
        new Probe("but not when reading goes on").format(255, 100, 255, 50).repaint(0, 0, 21845, rest).goTo(149).command(2).run(1, 1)
            .force(true).run(1, 0).look(6, 0);
        new Probe("nor when FORMAT ends before it writes").format(255, 100, 255, 50).repaint(0, 0, 21845, rest).goTo(149).command(5)
            .run(1, 1).status(4).run(1, 0).look(6, 0);
    }

    private static void windowIsOfReadCells() {
        // 8 cells before the writing and 8 behind it make no mark, nor do those that were written.
        new Probe("before and behind").paint(0, 2392, M.substring(0, 8)).goTo(149).command(5).give(0).run(1, 1).force(true)
            .paint(0, 0, M.substring(8)).run(1, 0).look(6, 0);
        new Probe("written and behind").command(5).give(245).run(151, 1).force(true).paint(0, 16, M.substring(2)).run(1, 0).look(6, 0);
    }

    private static void readerAtFirst() {
        new Probe("RESET at first").look(6, 0).paint(0, 0, M3 + Probe.clockless(254)).run(2, 0).look(6, 1).run(2, 0).look(6, 1);
        new Probe("MARKS is 0 at first").paint(0, 0, M + M + Probe.clockless(254)).run(2, 0).look(6, 1).run(1, 0).look(6, 0);
    }

    private static void readerWhenACommandIsTaken() {
        for (int c = 0; c < 6; c++) {
            String name = "RESET when a command is taken, " + c;
            new Probe(name).paint(0, 0, M3 + Probe.clockless(254)).run(3, 0).look(6, 1).command(c).look(6, 0).run(1, 0).look(6, 0);
            new Probe(name + ", MARKS").paint(0, 0, M3 + M + Probe.clockless(254)).run(1, 0).command(c).run(3, 0).look(6, 1).run(1, 0).look(6, 1);
            new Probe(name + ", one too few").paint(0, 0, M3 + M + Probe.clockless(254)).run(2, 0).command(c).run(2, 0).look(6, 1)
                .run(1, 0).look(6, 0);
            new Probe(name + ", FIELD").paint(0, 0, M3 + Probe.clockless(254) + M3 + Probe.clockless(251)).run(4, 0).look(6, 1).command(c)
                .look(6, 0).run(4, 0).look(6, 1).run(3, 0).look(6, 1);
        }
        new Probe("RESET though it ENDS at once").protect(true).paint(0, 0, M).run(1, 0).look(6, 1).command(5).look(6, 0);
        new Probe("not when it is refused").paint(0, 0, M).command(2).run(1, 0).command(2, false, false).look(6, 1);
        new Probe("not when it ENDS").paint(0, 0, M).command(2).run(1, 0).force(true).look(6, 1);
    }

    private static void readerWhenWritingBegins() {
        new Probe("RESET when writing begins").paint(0, 2384, M).goTo(149).command(5).give(0).run(1, 1).look(6, 0);
        new Probe("not when it does not begin").paint(0, 2384, M).goTo(149).command(5).run(1, 1).status(4).look(6, 1);
        // A field that went on when writing began does not go on behind it.
        new Probe("RESET, FIELD").paint(0, 2400 - 64, M3 + Probe.clockless(251)).goTo(146).command(5).give(0).run(4, 1).look(6, 0)
            .force(true).paint(0, 0, M).run(1, 0).look(6, 1).run(1, 0).look(6, 0);
        new Probe("RESET, MARKS").paint(0, 2400 - 32, M + M).goTo(148).command(5).give(0).run(2, 1).force(true)
            .paint(0, 0, M + Probe.clockless(254)).run(1, 0).look(6, 1).run(1, 0).look(6, 0);
    }

    private static void onlyAMarkIsAMark() {
        new Probe("the MARK").paint(0, 0, M).run(1, 0).look(6, 1);
        for (int i = 0; i < 16; i++) {
            new Probe("no MARK: cell " + i + " is turned over").paint(0, 0, M).spoil(0, i, true).run(1, 0).look(6, 0);
        }
    }

    private static void sixteenCellsForAByte() {
        // The mark's last cell is at + 15, so the byte comes with cell at + 31, in byte time (at + 31) / 16.
        for (int at = 0; at <= 32; at++) {
            Probe p = new Probe("16 cells since the mark at " + at).paint(0, at, M).run((at + 15) / 16, 0).look(6, 0).run(1, 0).look(6, 1);
            p.run((at + 31) / 16 - (at + 15) / 16 - 1, 0).look(6, 1).run(1, 0).look(6, 0);
        }
        // 15, 16 and 17 cells behind the third mark the byte 254 ends: but one of them is the field's beginning.
        for (int more = -1; more <= 1; more++) {
            String gap = "00".substring(0, 1 + more);
            new Probe("a byte has 16 cells, " + more).paint(0, 0, M3 + gap + Probe.clockless(254).substring(1) + "0000")
                .run(4, 0).look(6, more == 0 ? 1 : 0);
        }
        // The bytes of a field come 16 cells one behind the other, wherever the field stands.
        for (int at = 0; at < 16; at++) {
            new Probe("16 cells since the last byte, at " + at).paint(0, at, Probe.field(true, 254, 7, 85, 170, 255)).command(4).serve(11, 5)
                .status(0).look(2, 7).buffer(0, 7).buffer(1, 85).buffer(2, 170).buffer(3, 255);
        }
    }

    private static void threeMarksOrMore() {
        String marks = "";
        for (int n = 0; n <= 6; n++) {
            int due = n >= 3 ? 1 : 0;
            for (int start : new int[] {254, 251, 248}) {
                new Probe("MARKS is 3 or more: " + n + " and " + start).paint(0, 0, marks + Probe.clockless(start)).run(n, 0)
                    .look(6, n > 0 ? 1 : 0).run(1, 0).look(6, due);
            }
            marks = marks + M;
        }
    }

    private static void marksAre0BehindAByte() {
        String id = Probe.clockless(254);
        String other = Probe.clockless(7);
        new Probe("MARKS is 0 then, out of STEP").paint(0, 0, M + M + other + M + id).run(4, 0).look(6, 1).run(1, 0).look(6, 0);
        new Probe("MARKS is 0 then, 3 and a wrong byte").paint(0, 0, M3 + other + M + id).run(5, 0).look(6, 1).run(1, 0).look(6, 0);
        new Probe("MARKS is 0 then, 3 again").paint(0, 0, M + M + other + M3 + id).run(6, 0).look(6, 1).run(1, 0).look(6, 1);
        // Behind a field its marks do not count any more.
        String field = Probe.field(true, 254, 0, 0, 0, 0);
        new Probe("MARKS is 0 then, a field of 3").paint(0, 0, field + M + M + id).run(12, 0).look(6, 1).run(1, 0).look(6, 0);
        new Probe("MARKS is 0 then, a field and 3").paint(0, 0, field + M3 + id).run(13, 0).look(6, 1).run(1, 0).look(6, 1);
        new Probe("MARKS is 0 then, a field of 5").paint(0, 0, M + M + field + M + id).run(13, 0).look(6, 1).run(1, 0).look(6, 0);
    }

    private static void markWhileAFieldGoesOn() {
        String id = Probe.clockless(254);
        // The last of a field's bytes is 161 with a clock missing: it is a byte, and no mark.
        new Probe("a MARK as the last byte").paint(0, 0, M3 + id + Probe.clockless(0, 0, 0, 0, 0) + M + M + M + id).run(10, 0).look(6, 0)
            .run(2, 0).look(6, 1).run(1, 0).look(6, 0);
        new Probe("a MARK right behind the last byte").paint(0, 0, M3 + id + Probe.clockless(0, 0, 0, 0, 0, 0) + M3 + id).run(10, 0).look(6, 0)
            .run(3, 0).look(6, 1).run(1, 0).look(6, 1);
        new Probe("a MARK as the first byte").paint(0, 0, M3 + id + M + Probe.clockless(5)).command(4).serve(10, 5).look(2, 161).buffer(0, 161)
            .buffer(1, 5);
        // In STEP, but without a field, a mark that comes sooner than a byte is one: they may share 9 cells, or 2.
        for (int shared : new int[] {9, 2}) {
            String more = M.substring(shared);
            new Probe("a MARK in STEP, " + shared).paint(0, 0, M + more).run(2, 0).look(6, 1).run(1, 0).look(6, 0);
            Probe p = new Probe("3 MARKS in STEP, " + shared).paint(0, 0, M + more + more + Probe.clockless(254, 6, 7, 8, 9, 10, 11)).command(4);
            p.serve(10, 5).status(8).look(2, 6).buffer(1, 7).buffer(4, 10).look(3, 11);
        }
    }

    private static void byteThatBeginsAField() {
        for (int b = 0; b < 256; b++) {
            boolean begins = b == 254 || b == 251 || b == 248;
            new Probe("a field begins with " + b).paint(0, 0, M3 + Probe.clockless(b)).run(3, 0).look(6, 1).run(1, 0).look(6, begins ? 1 : 0);
        }
        new Probe("254 is an ID field").paint(0, 0, M3 + Probe.clockless(254)).command(4).run(5, 0).status(3);
        new Probe("251 is no ID field").paint(0, 0, M3 + Probe.clockless(251)).command(4).run(5, 0).status(1);
        new Probe("248 is no ID field").paint(0, 0, M3 + Probe.clockless(248)).command(4).run(5, 0).status(1);
    }

    private static void sixBytesOfAnId() {
        new Probe("an ID field has 6").paint(0, 0, M3 + Probe.clockless(254)).run(9, 0).look(6, 1).run(1, 0).look(6, 0);
        new Probe("track, side, sector, length, check").paint(0, 0, M3 + Probe.clockless(254, 1, 2, 3, 4, 5, 6, 7)).command(4).serve(9, 5)
            .status(1).serve(1, 0).status(8).look(3, 6).buffer(0, 1).buffer(1, 2).buffer(2, 3).buffer(3, 4).buffer(4, 5).buffer(5, -1);
    }

    /** How many byte times the reader is in STEP from the first mark of a data field on. */
    private static Probe dataOf(Probe p, int at, int size) {
        return p.goTo(at + 3).look(6, 1).run(1, 0).look(6, 1).run(size + 1, 0).look(6, 1).run(1, 0).look(6, 0);
    }

    private static void dataSizeByLength() {
        String data = M3 + Probe.clockless(251);
        for (int length : new int[] {0, 1, 2, 3, 4, 127, 128, 253, 254, 255}) {
            int size = length % 2 == 0 ? 16 : 32;
            dataOf(new Probe("16 << (length & 1), " + length).paint(0, 0, ReadTest.id(9, 9, length) + data).command(2), 10, size);
        }
        dataOf(new Probe("16 if there was none").paint(0, 160, data), 10, 16);
        dataOf(new Probe("16 if there was none, deleted").paint(0, 160, M3 + Probe.clockless(248)).command(2), 10, 16);
    }

    private static void dataSizeOfTheLatestRightId() {
        String data = M3 + Probe.clockless(251);
        String right = ReadTest.id(9, 9, 1);
        String wrong = Probe.field(false, 254, 9, 0, 9, 1);
        dataOf(new Probe("with a right check").paint(0, 0, wrong + data).command(2), 10, 16);
        dataOf(new Probe("the latest").paint(0, 0, right + ReadTest.id(9, 9, 0) + data).command(2), 20, 16);
        dataOf(new Probe("the latest, longer").paint(0, 0, ReadTest.id(9, 9, 0) + right + data).command(2), 20, 32);
        dataOf(new Probe("the latest right one").paint(0, 0, right + Probe.field(false, 254, 9, 0, 9, 0) + data).command(2), 20, 32);
    }

    private static void dataSizeSinceTheCommand() {
        String data = M3 + Probe.clockless(251);
        Probe p = new Probe("since the latest command was taken").paint(0, 0, ReadTest.id(9, 9, 1) + data);
        dataOf(p.run(9, 0).command(1), 10, 16);
        Probe q = new Probe("over before it was taken").paint(0, 0, ReadTest.id(9, 9, 1) + data);
        dataOf(q.run(10, 0).command(1), 10, 16);
        Probe r = new Probe("over behind that").paint(0, 0, ReadTest.id(9, 9, 1) + data);
        dataOf(r.command(1), 10, 32);
        Probe s = new Probe("a refused one is not taken").paint(0, 0, ReadTest.id(9, 9, 1) + data).command(2);
        dataOf(s.run(10, 0).command(2, false, false), 10, 32);
    }

    private static void eachBitOfACheck() {
        new Probe("right").paint(0, 0, Probe.field(true, 254, 1, 2, 3, 4)).command(4).serve(10, 5).status(0);
        for (int i = 0; i < 48; i++) {
            new Probe("CRC: bit " + i + " of an ID field").paint(0, 0, Probe.field(true, 254, 1, 2, 3, 4)).spoil(0, 64 + 2 * i + 1, true)
                .command(4).serve(10, 5).status(8);
            new Probe("no CRC: clock " + i + " of an ID field").paint(0, 0, Probe.field(true, 254, 1, 2, 3, 4)).spoil(0, 64 + 2 * i, true)
                .command(4).serve(10, 5).status(0);
        }
        String sector = ReadTest.id(0, 0, 0) + ReadTest.data(true, 251, 16, 1, 2);
        new Probe("right data").paint(0, 0, sector).command(2).serve(32, 16).status(0);
        for (int i = 0; i < 144; i++) {
            new Probe("CRC: bit " + i + " of a data field").paint(0, 0, sector).spoil(0, 224 + 2 * i + 1, true).command(2).serve(32, 16).status(8);
        }
    }

    private static void higherByteFirst() {
        int check = Probe.checkOf(254, 1, 2, 3, 4);
        String start = M3 + Probe.clockless(254, 1, 2, 3, 4);
        new Probe("the higher byte first").paint(0, 0, start + Probe.clockless(check >> 8, check & 255)).command(4).serve(10, 5).status(0)
            .buffer(4, check >> 8).look(3, check & 255);
        new Probe("the lower byte first").paint(0, 0, start + Probe.clockless(check & 255, check >> 8)).command(4).serve(10, 5).status(8);
    }

    private static void startByteInTheCheck() {
        // The check has three 161s, however many marks there were.
        new Probe("161, 161, 161 with four marks").paint(0, 0, M + Probe.field(true, 254, 1, 2, 3, 4)).command(4).serve(11, 5).status(0);
        String id = ReadTest.id(0, 0, 0);
        int check = Probe.checkOf(251, 0, 0, 0, 0, 0, 0, 0, 0, 0, 0, 0, 0, 0, 0, 0, 0);
        int[] bytes = new int[19];
        bytes[17] = check >> 8;
        bytes[18] = check & 255;
        bytes[0] = 251;
        new Probe("the byte with which it began").paint(0, 0, id + M3 + Probe.clockless(bytes)).command(2).serve(32, 16).status(0);
        bytes[0] = 248;
        new Probe("another one").paint(0, 0, id + M3 + Probe.clockless(bytes)).command(2).serve(32, 16).status(40);
    }

    private static void registersAt255() {
        new Probe("TRACK 255").set(0, 254).give(255).command(1).run(3, 0).look(1, 255).status(1).run(3, 0).status(0).look(1, 255);
        new Probe("TRACK 0").set(0, 1).give(0).command(1).run(3, 0).look(1, 0).status(1).run(3, 0).status(0).look(1, 0);
        new Probe("255 is matched").paint(0, 0, ReadTest.id(255, 255, 0)).set(0, 255).set(1, 255).command(3).run(10, 0).status(3);
        new Probe("SECTOR becomes 255").paint(0, 0, ReadTest.id(255, 0, 0)).command(4).serve(10, 5).look(2, 255);
        new Probe("DATA 255").paint(0, 0, ReadTest.id(255, 0, 0)).command(4).run(5, 0).look(3, 255).take(255);
    }

    private static void marksGoWithACommand() {
        String sector = ReadTest.id(0, 0, 0) + ReadTest.data(false, 248, 16, 1, 2);
        new Probe("LOST, CRC and DELETED go").paint(0, 0, sector).command(2).run(32, 0).status(44).command(1).status(1);
        new Probe("MISSING goes").command(4).run(200, 1).run(200, 1).run(200, 2).run(150, 1).status(16).command(1).status(1);
        new Probe("PROTECTED goes").protect(true).command(5).status(64).command(1).status(1);
        new Probe("they stay until then").protect(true).command(5).run(200, 1).give(1).take(1).set(0, 1).status(64);
    }

    private static void busyAndDrqGoAtTheEnd() {
        String sector = ReadTest.id(0, 0, 0) + ReadTest.data(true, 251, 16, 1, 2);
        new Probe("READ").paint(0, 0, sector).command(2).serve(29, 15).run(1, 0).status(3).run(1, 0).status(3).run(1, 0).status(0);
        new Probe("ADDRESS").paint(0, 0, sector).command(4).serve(8, 4).run(1, 0).status(3).take(Probe.checkOf(254, 0, 0, 0, 0) >> 8)
            .run(1, 0).status(0);
        new Probe("FORMAT").command(5).serve(150, 1).serve(148, 148).run(1, 0).status(3).give(0).run(1, 1).status(0);
        new Probe("WRITE").paint(0, 0, sector).command(3).run(19, 0).status(3).run(1, 0).status(4);
    }

    private static void getWhileDrqIsSet() {
        String id = ReadTest.id(6, 0, 0);
        new Probe("GET, taken in time").paint(0, 0, id).command(4).run(5, 0).status(3).take(6).run(1, 0).status(3).look(3, 0);
        new Probe("GET, not taken").paint(0, 0, id).command(4).run(5, 0).status(3).look(3, 6).run(1, 0).status(7).look(3, 0);
        new Probe("GET, given").paint(0, 0, id).command(4).run(5, 0).give(9).run(1, 0).status(3).look(3, 0);
        new Probe("GET, LOST stays").paint(0, 0, id).command(4).run(6, 0).status(7).take(0).status(5).run(1, 0).status(7);
        new Probe("GET, the last byte").paint(0, 0, id).command(4).serve(8, 4).run(1, 0).status(3).run(1, 0).status(4);
    }

    private static void askWhileDrqIsSet() {
        new Probe("ASK, given in time").command(5).give(1).run(151, 1).give(2).status(1).run(1, 0).status(3).cells(0, 1, Probe.encoded(1, 2));
        new Probe("ASK, taken in time").command(5).give(1).run(151, 1).take(1).run(1, 0).status(3).cells(0, 1, Probe.encoded(1, 1));
        new Probe("ASK, not given").command(5).give(1).run(151, 1).status(3).run(1, 0).status(7).cells(0, 1, Probe.encoded(1, 0)).look(3, 1);
        new Probe("ASK, LOST stays").command(5).give(1).run(152, 1).status(7).give(3).status(5).run(1, 0).status(7).cells(0, 2, Probe.encoded(0, 3));
    }
}
