/**
 * The limits that 'Terms' names for the commands, a test for each sentence: just inside the limit, at it and just
 * beyond it.
 */
public final class CommandLimitsTest {
    private static final int ZERO = 43690;
    private static final int MARK = 17545;
    private static final String ID = ReadTest.id(0, 0, 0);
    private static final String WRONG_ID = Probe.field(false, 254, 0, 0, 0, 0);
    private static final String DATA = ReadTest.data(true, 251, 16, 1, 2);

    public static void main(String[] args) {
        eachThirdByteTime();
        restoreOverTrack0();
        trackIsData();
        nextTrackIfThereIsOne();
        idFieldIsOver();
        awaitsUpToThe31st();
        awaitsAnew();
        dataFieldBeginsWhileItAwaits();
        getsAllButTheCheck();
        fifthIndexOfReadThatHunts();
        fifthIndexOfReadThatAwaits();
        fifthIndexOfReadThatReads();
        fifthIndexOfWrite();
        fifthIndexOfAddress();
        fifthIndexOfOthers();
        protectedDisk();
        waitsUpToThe11th();
        givenByThe11th();
        asksForDataSizeBytes();
        endsWithTheLastCell();
        addressGetsSixBytes();
        formatAtTheNextIndex();
        formatEndsAtTheNextIndex();
        formatOf245And247();
        formatAsksNotForTheSecond();
        formatCheckSinceAMark();
        formatCheckAtTheEnd();
        Probe.finish("CommandLimitsTest");
    }

    /** The head over that track, TRACK being right; the place is a byte of 0 .. 12 then. */
    private static Probe over(String name, int track) {
        return new Probe(name).give(track).command(1).run(3 * track + 3, 0).status(0).look(4, track).look(1, track);
    }

    private static void eachThirdByteTime() {
        for (int c = 0; c < 2; c++) {
            Probe p = over("each third byte time, " + c, 3).command(c).give(0);
            int track = c == 0 ? 255 : 3;
            for (int step = 0; step < 3; step++) {
                p.run(1, 0).look(4, 3 - step).look(1, track - step).run(1, 0).look(4, 3 - step).look(1, track - step)
                    .run(1, 0).look(4, 2 - step).look(1, track - step - 1).status(1);
            }
            p.run(2, 0).status(1).run(1, 0).status(0).look(1, 0).look(4, 0).run(3, 0).look(1, 0).look(4, 0);
        }
        // Without such a command nothing steps, though TRACK be not DATA.
        new Probe("no step at first").give(3).run(9, 0).look(1, 0).look(4, 0);
        new Probe("no step when it ENDED").command(1).run(3, 0).status(0).give(3).run(9, 0).look(1, 0).look(4, 0);
        new Probe("no step when it was forced").give(3).command(1).run(2, 0).force(true).run(9, 0).look(1, 0).look(4, 0);
        new Probe("no step in READ").give(3).command(2).run(9, 0).look(1, 0).look(4, 0);
        new Probe("since the command was taken").run(1, 0).give(1).command(1).run(2, 0).look(1, 0).run(1, 0).look(1, 1);
    }

    private static void restoreOverTrack0() {
        for (int track = 0; track < 4; track++) {
            over("RESTORE from " + track, track).command(0).look(1, 255).look(3, 0).look(4, track).run(3 * track + 2, 0).status(1)
                .look(4, 0).look(1, 255 - track).run(1, 0).status(0).look(1, 0).look(3, 0).look(4, 0);
        }
        // Over track 0 TRACK becomes 0, whatever DATA was given meanwhile; elsewhere TRACK may be DATA first.
        new Probe("RESTORE, the head first").command(0).give(255).run(3, 0).status(0).look(1, 0).look(3, 255);
        over("RESTORE, DATA first", 1).command(0).give(255).run(3, 0).status(0).look(1, 255).look(4, 1);
        over("SEEK over track 0 goes on", 0).set(0, 2).command(1).run(3, 0).status(1).look(1, 1).look(4, 0);
    }

    private static void trackIsData() {
        for (int from : new int[] {0, 1, 2, 254, 255}) {
            for (int way = -1; way <= 1; way++) {
                int to = Math.max(0, Math.min(255, from + way));
                Probe p = new Probe("TRACK " + from + ", DATA " + to).set(0, from).give(to).command(1).run(2, 0).status(1)
                    .run(1, 0).look(1, to);
                p.status(from == to ? 0 : 1).run(3, 0).status(0).look(1, to).look(3, to);
            }
        }
    }

    private static void nextTrackIfThereIsOne() {
        for (int track = 0; track < 4; track++) {
            over("up from " + track, track).set(0, 10).give(11).command(1).run(3, 0).look(1, 11)
                .look(4, Math.min(3, track + 1)).run(3, 0).status(0);
            over("down from " + track, track).set(0, 10).give(9).command(1).run(3, 0).look(1, 9)
                .look(4, Math.max(0, track - 1)).run(3, 0).status(0);
        }
        // Beyond the last track TRACK goes on, and the way back begins at that track.
        over("beyond 3 and back", 2).give(6).command(1).run(3, 0).look(4, 3).look(1, 3).run(3, 0).look(4, 3).look(1, 4).give(2).run(3, 0)
            .look(4, 2).look(1, 3).run(3, 0).look(4, 1).look(1, 2).run(3, 0).status(0);
        over("beyond 0 and back", 1).set(0, 9).give(5).command(1).run(3, 0).look(4, 0).look(1, 8).run(3, 0).look(4, 0)
            .look(1, 7).give(9).run(3, 0)
            .look(4, 1).look(1, 8);
        // The head still reads and writes there.
        over("written over track 3", 3).give(4).command(1).run(6, 0).status(0).look(4, 3).goTo(149).command(5).give(78).run(2, 1)
            .cells(3, 0, 37460).cells(2, 0, 0).cells(0, 0, 0);
    }

    private static void idFieldIsOver() {
        new Probe("just before it is over").paint(0, 0, WRONG_ID).command(2).run(9, 0).status(1).run(1, 0).status(9);
        new Probe("CRC goes").paint(0, 0, WRONG_ID + ReadTest.id(9, 9, 0)).command(2).run(19, 0).status(9).run(1, 0).status(1);
        int[][] near = {{5, 6, 1}, {4, 6, 0}, {6, 6, 0}, {5, 5, 0}, {5, 7, 0}, {6, 5, 0}, {0, 0, 0}, {255, 255, 0}};
        for (int[] n : near) {
            new Probe("its track is TRACK and its sector is SECTOR, " + n[0] + " " + n[1]).paint(0, 0, ReadTest.id(n[0], n[1], 0) + DATA)
                .set(0, 5).set(1, 6).command(2).serve(32, 16 * n[2]).status(1 - n[2]).look(1, 5).look(2, 6);
            new Probe("as in WRITE, " + n[0] + " " + n[1]).paint(0, 0, ReadTest.id(n[0], n[1], 0)).set(0, 5).set(1, 6).command(3)
                .run(10, 0).status(1 + 2 * n[2]);
        }
        new Probe("its side is nothing").paint(0, 0, Probe.field(true, 254, 0, 9, 0, 0) + DATA).command(2).serve(32, 16).status(0);
    }

    /** A data field whose first byte, behind its marks, comes in with that cell; the ID field is over with cell over. */
    private static Probe awaited(String name, int over, int begins) {
        return new Probe(name).paint(0, over - 159, ID).paint(0, begins - 63, DATA).command(2);
    }

    private static void awaitsUpToThe31st() {
        // Over within byte time b, the first one; the 31st is byte time b + 30, whose last cell is 16 * b + 495.
        for (int over : new int[] {159, 160, 167, 175, 176}) {
            int last = over / 16 * 16 + 495;
            awaited("the 30th byte time, " + over, over, last - 16).serve(100, 16).status(0);
            awaited("the 31st byte time's first cell, " + over, over, last - 15).serve(100, 16).status(0);
            awaited("the 31st byte time's last cell, " + over, over, last).serve(100, 16).status(0);
            awaited("the 32nd byte time's first cell, " + over, over, last + 1).serve(100, 0).status(1);
            awaited("the 32nd byte time's last cell, " + over, over, last + 16).serve(100, 0).status(1);
        }
        // It hunts again: a turn later it finds the ID field once more.
        awaited("it hunts again", 159, 656).serve(200, 0).status(1).paint(0, 1200, ID).paint(0, 1400, DATA).serve(60, 16).status(0);
    }

    private static void awaitsAnew() {
        // The second ID field is over with cell 319, so the 31st byte time ends with cell 16 * 19 + 495.
        int last = 16 * 19 + 495;
        Probe p = new Probe("anew, the 31st").paint(0, 0, ID + ID).paint(0, last - 63, DATA).command(2);
        p.serve(100, 16).status(0);
        new Probe("anew, the 32nd").paint(0, 0, ID + ID).paint(0, last - 62, DATA).command(2).serve(100, 0).status(1);
        // One that is another's, or wrong, does not begin it anew.
        for (String other : new String[] {ReadTest.id(0, 1, 0), ReadTest.id(1, 0, 0), WRONG_ID}) {
            int status = other.equals(WRONG_ID) ? 8 : 0;
            new Probe("not anew, the 31st").paint(0, 0, ID + other).paint(0, 639 - 63, DATA).command(2).serve(100, 16).status(status);
            new Probe("not anew, the 32nd").paint(0, 0, ID + other).paint(0, 640 - 63, DATA).command(2).serve(100, 0).status(status + 1);
        }
        // Over with the last cell of the 31st byte time: what the cells bring is done before.
        int end = 16 * 9 + 495;
        new Probe("anew in the 31st").paint(0, 0, ID).paint(0, end - 159, ID).paint(0, end + 100, DATA).command(2).serve(100, 16).status(0);
    }

    private static void dataFieldBeginsWhileItAwaits() {
        new Probe("while it hunts").paint(0, 0, DATA).command(2).serve(30, 0).status(1);
        new Probe("right behind the ID field").paint(0, 0, ID + DATA).command(2).run(10, 0).status(1).serve(22, 16).status(0);
        new Probe("DELETED if 248").paint(0, 0, ID + ReadTest.data(true, 248, 16, 1, 2)).command(2).run(13, 0).status(1)
            .run(1, 0).status(33);
        new Probe("not DELETED if 251").paint(0, 0, ID + DATA).command(2).run(14, 0).status(1);
        new Probe("not DELETED while it hunts").paint(0, 0, ReadTest.data(true, 248, 16, 1, 2)).command(2).run(14, 0).status(1);
        // Its check is looked at when it is over, and not before.
        new Probe("CRC when it is over").paint(0, 0, ID + ReadTest.data(false, 251, 16, 1, 2)).command(2).serve(31, 16)
            .status(1).serve(1, 0).status(8);
        new Probe("CRC twice").paint(0, 0, ID + WRONG_ID + ReadTest.data(false, 251, 16, 1, 2)).command(2).run(20, 0)
            .status(9).serve(22, 16).status(8);
        new Probe("a wrong one while it hunts").paint(0, 0, ReadTest.data(false, 251, 16, 1, 2)).command(2).serve(40, 0).status(1);
    }

    private static void getsAllButTheCheck() {
        for (int length = 0; length < 2; length++) {
            int size = 16 << length;
            String fields = ReadTest.id(0, 0, length) + ReadTest.data(true, 251, size, 7, 9);
            new Probe("each but the check's, " + size).paint(0, 0, fields).command(2).serve(14, 0).serve(1, 1).look(3, 7)
                .serve(size - 2, size - 2)
                .look(3, 0).serve(1, 1).look(3, 9).serve(1, 0).look(3, 9).status(1).serve(1, 0).look(3, 9).status(0);
        }
    }

    /** Four turns of the disk and 149 byte times of the fifth, from place 0. */
    private static Probe upToTheFifth(Probe p) {
        return p.run(150, 1).run(150, 1).run(150, 1).run(150, 1).status(1).run(149, 0);
    }

    private static void fifthIndexOfReadThatHunts() {
        upToTheFifth(new Probe("READ hunts").command(2)).status(1).run(1, 1).status(16).run(150, 1).status(16);
        upToTheFifth(new Probe("since the command").run(150, 1).command(2)).status(1).run(1, 1).status(16);
        new Probe("taken just before an INDEX").run(149, 0).command(2).run(1, 1).run(150, 1).run(150, 1).run(150, 1).status(1).run(149, 0)
            .status(1).run(1, 1).status(16);
        new Probe("those of the command before").command(2).run(150, 1).run(150, 1).run(150, 1).run(150, 1).force(true).command(2)
            .run(150, 1).run(150, 1).run(150, 1).run(150, 1).status(1).run(150, 1).status(16);
        // CRC of a wrong ID field stays beside it.
        new Probe("with CRC").paint(0, 0, WRONG_ID).command(2).run(150, 1).run(150, 1).run(150, 1).run(150, 1).run(149, 0).status(9)
            .run(1, 1).status(24);
        // Within an ID field it hunts still.
        new Probe("within an ID field").command(2).run(150, 1).run(150, 1).run(150, 1).run(150, 1).paint(0, 2400 - 80, ID)
            .run(149, 0).status(1).look(6, 1).run(1, 1).status(16).look(6, 1);
    }

    /** READ or WRITE in the fifth turn; the ID field whose last cell is given is right in that turn alone. */
    private static Probe fifthTurn(String name, int c, int over) {
        return new Probe(name).paint(0, over - 159, WRONG_ID).command(c).run(150, 1).run(150, 1).run(150, 1).run(150, 1)
            .status(9).spoil(0, over, true);
    }

    private static void fifthIndexOfReadThatAwaits() {
        fifthTurn("READ awaits since long", 2, 2000).run(149, 0).status(1).run(1, 1).status(16);
        fifthTurn("READ awaits since the last cell", 2, 2399).run(149, 0).status(9).run(1, 1).status(16);
        // At the fourth it goes on.
        new Probe("READ awaits at the fourth").paint(0, 2240, WRONG_ID).paint(0, 100, DATA).command(2).run(150, 1).run(150, 1).run(150, 1)
            .spoil(0, 2399, true).run(150, 1).status(1).serve(30, 16).status(0);
    }

    private static void fifthIndexOfReadThatReads() {
        // The byte with which the data field begins comes in with cell 2399, or with the first cell behind the INDEX.
        fifthTurn("READ reads since the last cell", 2, 2200).paint(0, 2399 - 63, DATA).serve(149, 0).status(1).serve(1, 0).status(1)
            .serve(18, 16).status(0);
        fifthTurn("READ begins behind the INDEX", 2, 2200).paint(0, 2400 - 63, DATA).serve(149, 0).status(1).serve(1, 0).status(16);
        // The field is over with cell 2399, or with the first cell behind the INDEX.
        fifthTurn("READ is over at the INDEX", 2, 2000).paint(0, 2399 - 351, DATA).serve(149, 16).status(1).serve(1, 0).status(0);
        fifthTurn("READ is over behind the INDEX", 2, 2000).paint(0, 2400 - 351, DATA).serve(150, 16).status(1).serve(1, 0).status(0);
    }

    private static void fifthIndexOfWrite() {
        upToTheFifth(new Probe("WRITE hunts").command(3)).status(1).run(1, 1).status(16);
        fifthTurn("WRITE waits since the last cell", 3, 2399).run(149, 0).status(9).run(1, 1).status(3).run(9, 0).status(3)
            .run(1, 0).status(4);
        fifthTurn("WRITE waits, and writes", 3, 2399).run(150, 1).status(3).give(1).run(10, 0).status(1).run(1, 0).status(1).cells(0, 9, 0)
            .cells(0, 10, ZERO);
        // Over with the first cell behind the INDEX is too late.
        new Probe("WRITE finds it behind the INDEX").paint(0, 2400 - 159, WRONG_ID).command(3).run(150, 1).run(150, 1)
            .run(150, 1).run(150, 1)
            .status(9).run(1, 0).spoil(0, 0, true).run(148, 0).status(9).run(1, 1).status(24);
        // The 11th byte time ends with the fifth INDEX: LOST, and not MISSING.
        fifthTurn("WRITE's 11th ends at the INDEX", 3, 2399 - 160).run(149, 0).status(3).run(1, 1).status(4);
        fifthTurn("WRITE writes over the INDEX", 3, 2399 - 200).run(137, 0).run(1, 0).status(3).give(1).run(12, 1).status(1)
            .serve(25, 15).status(0);
    }

    private static void fifthIndexOfAddress() {
        upToTheFifth(new Probe("ADDRESS hunts").command(4)).status(1).run(1, 1).status(16).look(2, 0);
        upToTheFifth(new Probe("ADDRESS hunts, the marks being half read").command(4)).status(1)
            .paint(0, 2399 - 63, ReadTest.id(5, 0, 0)).run(1, 1).status(16);
        upToTheFifth(new Probe("ADDRESS hunts, an ID field having been read").paint(0, 0, ID).command(4).serve(10, 5).status(0)
            .spoil(0, 1, true).goTo(0).command(4)).status(1).run(1, 1).status(16);
        // The ID field begins with cell 2399, or with the first cell behind the INDEX.
        new Probe("ADDRESS reads since the last cell").command(4).run(150, 1).run(150, 1).run(150, 1).run(150, 1)
            .paint(0, 2399 - 63, ReadTest.id(5, 0, 0)).serve(149, 0).status(1).serve(1, 0).status(1).serve(6, 5).status(0).look(2, 5);
        new Probe("ADDRESS begins behind the INDEX").command(4).run(150, 1).run(150, 1).run(150, 1).run(150, 1)
            .paint(0, 2400 - 63, ReadTest.id(5, 0, 0)).serve(149, 0).status(1).serve(1, 0).status(16).look(2, 0);
        new Probe("ADDRESS is over at the INDEX").command(4).run(150, 1).run(150, 1).run(150, 1).run(150, 1)
            .paint(0, 2399 - 159, ReadTest.id(5, 0, 0)).serve(149, 5).status(1).serve(1, 0).status(0).look(2, 5);
    }

    private static void fifthIndexOfOthers() {
        // 256 steps of three byte times are five turns and more.
        new Probe("SEEK").give(255).command(1).run(150, 1).run(150, 1).run(150, 1).run(150, 1).run(150, 1).status(1).run(17, 0).status(1)
            .run(1, 0).status(0).look(1, 255);
        new Probe("no command").run(150, 1).run(150, 1).run(150, 1).run(150, 1).run(150, 1).status(0).run(150, 1).status(0);
    }

    private static void protectedDisk() {
        for (int c : new int[] {3, 5}) {
            new Probe("protected, " + c).paint(0, 0, ID).give(7).protect(true).command(c).status(64).force(false).look(3, 7).look(7, c)
                .serve(200, 0).status(64).cells(0, 20, 0).cells(0, 40, 0);
            new Probe("not protected, " + c).paint(0, 0, ID).command(c).status(c == 5 ? 3 : 1).force(true);
        }
    }

    private static void waitsUpToThe11th() {
        // Over within byte time b, the first one: the 11th is byte time b + 10.
        for (int over : new int[] {159, 160, 167, 175, 176}) {
            int b = over / 16;
            new Probe("DRQ set still, " + over).paint(0, over - 159, ID).command(3).run(b, 0).status(1).run(1, 0).status(3)
                .run(9, 0).status(3)
                .run(1, 0).status(4).run(20, 0).status(4).cells(0, b + 11, 0);
            new Probe("from the next cell time on, " + over).paint(0, over - 159, ID).command(3).run(b + 1, 0).give(5).run(9, 0).status(1)
                .run(1, 0).status(1).cells(0, b + 10, 0).run(1, 0).cells(0, b + 10, 0).cells(0, b + 11, ZERO).cells(0, b + 12, 0);
        }
    }

    private static void givenByThe11th() {
        Probe p = new Probe("given before it waits").paint(0, 0, ID).command(3).run(9, 0).give(5);
        p.run(1, 0).status(3).run(10, 0).status(4);
        for (int n = 10; n <= 19; n++) {
            new Probe("given behind byte time " + n).paint(0, 0, ID).command(3).run(n, 0).status(3).give(5).run(20 - n, 0).status(1)
                .run(1, 0).status(1).cells(0, 20, ZERO);
        }
        new Probe("given behind the 11th").paint(0, 0, ID).command(3).run(20, 0).status(4).give(5).run(1, 0).status(4).cells(0, 20, 0);
        new Probe("served in the 11th").paint(0, 0, ID).command(3).run(18, 0).serve(1, 1).run(1, 0).status(1);
        new Probe("served too late").paint(0, 0, ID).command(3).run(19, 0).serve(1, 0).status(4);
    }

    private static void asksForDataSizeBytes() {
        for (int length = 0; length < 2; length++) {
            int size = 16 << length;
            Probe p = new Probe("DATA SIZE bytes, " + size).paint(0, 0, ReadTest.id(0, 0, length)).command(3).run(10, 0)
                .give(1).run(18, 0).status(1);
            for (int i = 1; i < size; i++) {
                p.run(1, 0).status(3).give(i + 1);
            }
            // But for the last one.
            p.run(1, 0).status(1).cells(0, 28, Probe.encoded(1, 1)).cells(0, 27 + size, Probe.encoded(size - 1 & 1, size))
                .run(2, 0).status(1)
                .run(1, 0).status(0);
            p.cells(0, 30 + size, Probe.encoded(checkOfCounting(size) & 1, 78)).cells(0, 31 + size, 0);
        }
        new Probe("DRQ set still at the first").paint(0, 0, ID).fill(255, 16).command(3).serve(28, 1).status(1).run(1, 0)
            .status(3).run(1, 0).status(7)
            .cells(0, 28, Probe.encoded(1, 255)).cells(0, 29, Probe.encoded(1, 0));
        new Probe("DRQ set still at the last").paint(0, 0, ID).fill(255, 16).command(3).serve(42, 15).run(1, 0).status(3)
            .run(1, 0).status(7)
            .cells(0, 42, Probe.encoded(1, 255)).cells(0, 43, Probe.encoded(1, 0)).run(3, 0).status(4);
    }

    /** The check of a data field with the bytes 1, 2, 3 .. */
    private static int checkOfCounting(int size) {
        int[] bytes = new int[size + 1];
        for (int i = 1; i <= size; i++) {
            bytes[i] = i;
        }
        bytes[0] = 251;
        return Probe.checkOf(bytes);
    }

    private static void endsWithTheLastCell() {
        int last = Probe.encoded(Probe.checkOf(251, 0, 0, 0, 0, 0, 0, 0, 0, 0, 0, 0, 0, 0, 0, 0, 0) & 1, 78);
        // The cells around the end are 1 before: the last one of the 78 is written, the next one is not.
        new Probe("with the last cell of that it ENDS").paint(0, 0, ID).spoil(0, 47 * 16 - 1, true).spoil(0, 47 * 16, true).command(3)
            .serve(46, 16).status(1).serve(1, 0).status(0).cells(0, 46, last).cells(0, 47, 32768).serve(1, 0).cells(0, 47, 32768);
        // A mark right behind it is read.
        new Probe("from then on it is read").paint(0, 0, ID).paint(0, 47 * 16, Probe.MARK).command(3).serve(47, 16).look(6, 0)
            .run(1, 0).look(6, 1);
    }

    private static void addressGetsSixBytes() {
        int check = Probe.checkOf(254, 1, 2, 3, 4);
        int[] due = {1, 2, 3, 4, check >> 8};
        Probe p = new Probe("each of the field's six bytes").paint(0, 0, Probe.field(true, 254, 1, 2, 3, 4)).set(1, 99)
            .command(4).run(4, 0).status(1);
        for (int b : due) {
            p.run(1, 0).status(3).take(b).look(2, 99);
        }
        p.run(1, 0).status(0).look(3, check & 255).look(2, 1).run(1, 0).look(3, check & 255);
        new Probe("SECTOR though the check is wrong").paint(0, 0, Probe.field(false, 254, 7, 2, 3, 4)).command(4).serve(10, 5)
            .status(8).look(2, 7);
        new Probe("taken within the marks").paint(0, 0, ReadTest.id(7, 0, 0)).run(1, 0).command(4).run(149, 1).status(1).look(2, 0);
        // From the fourth mark on three are left.
        new Probe("taken behind one of four").paint(0, 0, Probe.MARK + ReadTest.id(7, 0, 0)).run(1, 0).command(4).serve(10, 5)
            .status(0).look(2, 7);
    }

    private static void formatAtTheNextIndex() {
        for (int at : new int[] {0, 1, 148, 149}) {
            new Probe("not given, from " + at).goTo(at).command(5).run(149 - at, 0).status(3).run(1, 1).status(4).run(1, 0).cells(0, 0, 0);
            new Probe("given just in time, from " + at).goTo(at).command(5).run(149 - at, 0).give(1).run(1, 1).status(1).cells(0, 149, 0)
                .cells(0, 0, 0).run(1, 0).status(3).cells(0, 0, Probe.encoded(0, 1)).cells(0, 149, 0);
        }
        new Probe("given before it is taken").give(1).command(5).run(150, 1).status(4);
        new Probe("given behind the INDEX").command(5).run(150, 1).status(4).give(1).run(1, 0).cells(0, 0, 0);
    }

    private static void formatEndsAtTheNextIndex() {
        new Probe("from place 0 to the INDEX").paint(0, 2384, "1111111111111111").fill(255, 100).fill(255, 100).command(5).serve(150, 1)
            .serve(149, 149).status(1).cells(0, 149, 65535).cells(0, 148, 21845).serve(1, 0).status(0).cells(0, 149, 21845)
            .cells(0, 0, 21845)
            .spoil(0, 0, true).run(1, 0).cells(0, 0, 54613);
        new Probe("with DRQ set still").command(5).give(255).run(150, 1).run(149, 0).status(7).run(1, 1).status(4).cells(0, 149, ZERO);
        new Probe("one turn alone").command(5).serve(150, 1).serve(150, 149).status(0).serve(150, 0).status(0);
    }

    private static void formatOf245And247() {
        for (int b = 240; b < 256; b++) {
            int due = b == 245 ? MARK : Probe.encoded(0, b == 247 ? 255 : b);
            new Probe("written as the first byte: " + b).command(5).give(b).run(151, 1).cells(0, 0, due);
        }
        // 0, and no mark, is written when DATA is 245 or 247 and DRQ is set still.
        for (int b : new int[] {245, 247}) {
            int at = b == 245 ? 1 : 2;
            new Probe("DRQ set still, " + b).command(5).give(b).run(151 + at, 1).status(7).cells(0, at, Probe.encoded(1, 0)).look(3, b);
        }
    }

    private static void formatAsksNotForTheSecond() {
        new Probe("nothing is asked").command(5).give(247).run(151, 1).status(3).give(1).status(1).run(1, 0).status(1)
            .cells(0, 1, Probe.encoded(1, 255)).run(1, 0).status(3).cells(0, 2, Probe.encoded(1, 1));
        new Probe("DRQ stays as it is").command(5).give(247).run(152, 1).status(3).give(1).run(1, 0).status(3)
            .cells(0, 2, Probe.encoded(1, 1));
        new Probe("LOST with the next").command(5).give(247).run(152, 1).status(3).run(1, 0).status(7).cells(0, 2, Probe.encoded(1, 0));
        // A check of 247 as DATA stays there: given once more, it is another check.
        new Probe("247 twice").command(5).give(247).run(152, 1).give(247).run(1, 0).status(3).run(1, 0).status(3)
            .cells(0, 2, Probe.encoded(1, 255)).cells(0, 3, Probe.encoded(1, 255));
    }

    /** Formats with the bytes and compares the check whose higher byte stands at word k with that of some bytes. */
    private static void checkAt(String name, int k, int[] written, int... checked) {
        int[] runs = new int[2 * written.length];
        for (int i = 0; i < written.length; i++) {
            runs[2 * i] = written[i];
            runs[2 * i + 1] = 1;
        }
        java.util.List<Integer> all = new java.util.ArrayList<>();
        for (int b : checked) {
            all.add(b);
        }
        int check = Probe.plainCheck(all);
        int before = k == 0 ? 0 : written[k - 1] & 1;
        new Probe(name).format(runs).cells(0, k, Probe.encoded(before, check >> 8))
            .cells(0, k + 1, Probe.encoded(check >> 8 & 1, check & 255));
    }

    private static void formatCheckSinceAMark() {
        checkAt("of all bytes, there being none", 0, new int[] {247});
        checkAt("of all bytes, one", 1, new int[] {5, 247}, 5);
        checkAt("of all bytes, no mark", 3, new int[] {5, 161, 244, 247}, 5, 161, 244);
        checkAt("a mark alone", 1, new int[] {245, 247}, 161);
        checkAt("a mark as the first", 2, new int[] {245, 6, 247}, 161, 6);
        checkAt("a mark behind a byte", 3, new int[] {5, 245, 6, 247}, 161, 6);
        checkAt("a mark behind a mark", 4, new int[] {5, 245, 245, 6, 247}, 161, 161, 6);
        checkAt("a mark behind two marks", 5, new int[] {5, 245, 245, 245, 6, 247}, 161, 161, 161, 6);
        checkAt("a mark behind a byte behind a mark", 4, new int[] {245, 5, 245, 6, 247}, 161, 6);
        checkAt("the latest such one", 6, new int[] {245, 245, 5, 245, 245, 6, 247}, 161, 161, 6);
        checkAt("a byte 161 is no mark", 4, new int[] {245, 161, 245, 6, 247}, 161, 6);
        // What a check wrote is left out of the next one.
        int first = Probe.plainCheck(java.util.List.of(161, 6));
        int second = Probe.plainCheck(java.util.List.of(161, 6, 7));
        new Probe("247 and what it writes left out").format(245, 1, 6, 1, 247, 1, 7, 1, 247, 1)
            .cells(0, 3, Probe.encoded(first >> 8 & 1, first & 255))
            .cells(0, 4, Probe.encoded(first & 1, 7)).cells(0, 5, Probe.encoded(1, second >> 8))
            .cells(0, 6, Probe.encoded(second >> 8 & 1, second & 255));
    }

    private static void formatCheckAtTheEnd() {
        int check = Probe.plainCheck(java.util.Collections.nCopies(148, 1));
        new Probe("both halves have room").format(1, 100, 1, 48, 247, 1).cells(0, 148, Probe.encoded(1, check >> 8))
            .cells(0, 149, Probe.encoded(check >> 8 & 1, check & 255)).cells(0, 0, Probe.encoded(0, 1));
        int longer = Probe.plainCheck(java.util.Collections.nCopies(149, 1));
        new Probe("the lower half has none").format(1, 100, 1, 49, 247, 1).cells(0, 149, Probe.encoded(1, longer >> 8))
            .cells(0, 0, Probe.encoded(0, 1)).format(9, 1).cells(0, 0, Probe.encoded(0, 9)).cells(0, 1, Probe.encoded(1, 0));
    }
}
