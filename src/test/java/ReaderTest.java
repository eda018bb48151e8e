/** How the reader finds marks, bytes and fields, seen through look(6) and the ID fields that ADDRESS reads. */
public final class ReaderTest {
    private static final String M = Probe.MARK;

    public static void main(String[] args) {
        marks();
        howManyMarks();
        whichBytesBegin();
        marksOutOfPlace();
        marksInAField();
        idFieldLength();
        dataFieldLength();
        commandResets();
        windowOutlivesCommands();
        Probe.finish("ReaderTest");
    }

    private static void marks() {
        for (int at : new int[] {0, 1, 7, 15, 16}) {
            int end = (at + 15) / 16;
            Probe p = new Probe("a mark at " + at).paint(0, at, M).run(end, 0).look(6, 0).run(1, 0).look(6, 1);
            p.run((at + 31) / 16 - end - 1, 0).look(6, 1).run(1, 0).look(6, 0);
        }
        // 161 with all its clocks is no mark.
        new Probe("no mark").paint(0, 0, "0100010010101001").run(1, 0).look(6, 0).run(20, 0).look(6, 0);
        new Probe("past the index").paint(0, 2392, M).run(150, 1).look(6, 0).run(1, 0).look(6, 1);
    }

    private static void howManyMarks() {
        String[] marks = {"", M, M + M, M + M + M, M + M + M + M, M + M + M + M + M};
        for (int n = 1; n < marks.length; n++) {
            Probe p = new Probe(n + " marks").paint(0, 0, marks[n] + Probe.clockless(254)).run(n, 0).look(6, 1)
                .run(1, 0).look(6, n >= 3 ? 1 : 0);
            p.run(5, 0).look(6, n >= 3 ? 1 : 0).run(1, 0).look(6, 0);
        }
        for (int n = 1; n < marks.length; n++) {
            new Probe(n + " marks, data").paint(0, 0, marks[n] + Probe.clockless(251)).run(n + 1, 0).look(6, n >= 3 ? 1 : 0);
        }
        // A byte between them, and the count begins again.
        new Probe("2 marks, a byte, 2 marks").paint(0, 0, M + M + Probe.clockless(7) + M + M + Probe.clockless(254))
            .run(2, 0).look(6, 1).run(1, 0).look(6, 0).run(2, 0).look(6, 1).run(1, 0).look(6, 0);
        new Probe("2 marks, a byte, 1 mark").paint(0, 0, M + M + Probe.clockless(254) + M + Probe.clockless(254)).run(5, 0).look(6, 0);
    }

    private static void whichBytesBegin() {
        for (int b : new int[] {254, 251, 248}) {
            new Probe("begins " + b).paint(0, 0, M + M + M + Probe.clockless(b)).run(4, 0).look(6, 1);
        }
        for (int b : new int[] {255, 253, 252, 250, 249, 247, 245, 0}) {
            new Probe("begins not " + b).paint(0, 0, M + M + M + Probe.clockless(b)).run(4, 0).look(6, 0);
        }
    }

    private static void marksOutOfPlace() {
        // The latest mark says where bytes begin, not the first one.
        Probe p = new Probe("a later mark").paint(0, 0, M + M.substring(2) + M.substring(2) + Probe.clockless(254, 6, 0, 8, 0, 9, 9))
            .command(4);
        p.run(3, 0).look(6, 1).status(1).run(1, 0).serve(6, 5).status(8).look(2, 6).buffer(0, 6).buffer(2, 8).buffer(4, 9);
        // 16 cells behind a mark without another one a byte comes, and that is the end of STEP.
        new Probe("too far apart").paint(0, 0, M + "0000000000000000" + M + M + Probe.clockless(254)).run(2, 0).look(6, 0)
            .run(2, 0).look(6, 1).run(1, 0).look(6, 0);
        // Marks may share two cells, as 01 is both their beginning and their end.
        new Probe("marks that overlap").paint(0, 0, M + M.substring(2) + M.substring(2) + "0000" + Probe.clockless(0)).run(2, 0)
            .look(6, 1).run(1, 0).look(6, 1);
        new Probe("a field behind overlapping marks").paint(0, 0, M + M.substring(2) + M.substring(2) + Probe.clockless(254))
            .run(4, 0).look(6, 1).run(5, 0).look(6, 1).run(1, 0).look(6, 0);
    }

    private static void marksInAField() {
        // Within a field a mark is the byte 161 or, off its place, nothing.
        Probe p = new Probe("marks as bytes").paint(0, 0, M + M + M + Probe.clockless(254) + M + M + M + M + Probe.clockless(1, 2))
            .command(4);
        p.serve(10, 5).status(8).look(2, 161).buffer(0, 161).buffer(3, 161).buffer(4, 1).look(3, 2).look(6, 0);
        Probe q = new Probe("a mark off its place").paint(0, 0, M + M + M + Probe.clockless(254) + "00000" + M).command(4);
        q.serve(9, 5).look(6, 1).serve(1, 0).look(6, 0).status(8);
    }

    private static void idFieldLength() {
        new Probe("an ID field has 6 bytes").paint(0, 3, Probe.field(true, 254, 1, 2, 3, 4)).run(10, 0).look(6, 1).run(1, 0).look(6, 0);
    }

    private static void dataFieldLength() {
        String data = M + M + M + Probe.clockless(251);
        new Probe("16 bytes").paint(0, 0, data).run(21, 0).look(6, 1).run(1, 0).look(6, 0);
        for (int length : new int[] {0, 1, 2, 3, 254, 255}) {
            int size = length % 2 == 1 ? 32 : 16;
            new Probe("length " + length).paint(0, 0, Probe.field(true, 254, 0, 0, 5, length)).paint(0, 160, data).command(1)
                .run(14, 0).look(6, 1).run(size + 1, 0).look(6, 1).run(1, 0).look(6, 0);
        }
        new Probe("a wrong check tells no size").paint(0, 0, Probe.field(false, 254, 0, 0, 5, 1)).paint(0, 160, data).command(2)
            .run(31, 0).look(6, 1).status(9).run(1, 0).look(6, 0);
        new Probe("the latest ID tells it").paint(0, 0, Probe.field(true, 254, 0, 0, 5, 1))
            .paint(0, 160, Probe.field(true, 254, 0, 0, 5, 0)).paint(0, 320, data).command(1).run(41, 0).look(6, 1).run(1, 0).look(6, 0);
        new Probe("a wrong one leaves the size").paint(0, 0, Probe.field(true, 254, 0, 0, 5, 1))
            .paint(0, 160, Probe.field(false, 254, 0, 0, 5, 0)).paint(0, 320, data).command(1).run(57, 0).look(6, 1).run(1, 0).look(6, 0);
        // Between the ID field and the data field a command is taken: its size is forgotten.
        new Probe("a command forgets the size").paint(0, 0, Probe.field(true, 254, 0, 0, 5, 1)).paint(0, 160, data).command(1)
            .run(10, 0).command(1, false, true).run(21, 0).look(6, 1).run(1, 0).look(6, 0);
        new Probe("a refused command forgets it not").paint(0, 0, Probe.field(true, 254, 0, 0, 5, 1)).paint(0, 160, data)
            .command(2).run(10, 0).command(1, false, false).run(37, 0).look(6, 1).run(1, 0).look(6, 0);
    }

    private static void commandResets() {
        for (int c = 0; c < 6; c++) {
            new Probe("reset by " + c).paint(0, 0, M + M + M + Probe.clockless(254)).run(2, 0).look(6, 1).command(c).look(6, 0)
                .run(1, 0).look(6, 1).run(1, 0).look(6, 0);
            new Probe("marks are forgotten by " + c).paint(0, 0, M + M + M + Probe.clockless(254)).run(1, 0).command(c)
                .run(2, 0).look(6, 1).run(1, 0).look(6, 0);
            new Probe("a field ends by " + c).paint(0, 0, M + M + M + Probe.clockless(254)).run(6, 0).look(6, 1).command(c)
                .look(6, 0).run(1, 0).look(6, 0);
        }
        new Probe("reset by a protected WRITE").protect(true).paint(0, 0, M).run(1, 0).look(6, 1).command(3).look(6, 0);
        new Probe("not by a refused one").paint(0, 0, M).run(1, 0).command(6, false, false).look(6, 1);
        new Probe("not by force").command(2).paint(0, 0, M).run(1, 0).force(true).look(6, 1);
    }

    private static void windowOutlivesCommands() {
        // A mark that is half read when a command is taken is a mark still.
        new Probe("half a mark").paint(0, 8, M).run(1, 0).command(2).run(1, 0).look(6, 1);
        new Probe("half a mark at the end").paint(0, 8, M).command(2).run(1, 0).force(true).run(1, 0).look(6, 1);
        new Probe("half a mark, protected").protect(true).paint(0, 8, M).run(1, 0).command(5).status(64).run(1, 0).look(6, 1);
        // When writing ends the window is empty: half a mark from before it is none.
        new Probe("writing empties it").paint(0, 2392, M.substring(0, 8)).goTo(149).command(5).give(78).run(1, 1).force(true)
            .paint(0, 0, M.substring(8)).run(1, 0).look(6, 0);
        new Probe("without writing it stays").paint(0, 2392, M.substring(0, 8)).goTo(149).command(4).run(1, 1).force(true)
            .paint(0, 0, M.substring(8)).run(1, 0).look(6, 1);
        new Probe("FORMAT that lost ends without writing").paint(0, 2392, M).goTo(149).command(5).run(1, 1).status(4)
            .run(1, 0).look(6, 1);
        new Probe("writing resets").paint(0, 2384, M).goTo(149).command(5).give(78).run(1, 1).status(1).look(6, 0);
    }
}
