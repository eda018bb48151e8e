/** FORMAT. */
public final class FormatTest {
    private static final int MARK = 17545;

    public static void main(String[] args) {
        protectedDisk();
        notGiven();
        turn();
        bytesAndMarks();
        checks();
        checkAtTheEnd();
        asksNotForTheSecondHalf();
        lost();
        forced();
        readerAroundWriting();
        Probe.finish("FormatTest");
    }

    private static void protectedDisk() {
        new Probe("protected").protect(true).give(5).command(5).status(64).look(7, 5).run(200, 1).status(64).cells(0, 0, 0);
    }

    private static void notGiven() {
        new Probe("not given").command(5).status(3).run(149, 0).status(3).run(1, 1).status(4).run(10, 0).status(4).cells(0, 0, 0);
        new Probe("given too early").give(78).command(5).status(3).run(150, 1).status(4).look(3, 78).cells(0, 0, 0);
    }

    private static void turn() {
        // From the next INDEX to the one behind it, wherever the command was taken.
        new Probe("a turn").paint(0, 16 * 149, "1111111111111111").goTo(100).fill(78, 100).fill(78, 100).command(5).serve(49, 1).status(1)
            .cells(0, 0, 0).serve(1, 0).cells(0, 149, 65535).cells(0, 0, 0).serve(149, 149).status(1).cells(0, 149, 65535).run(1, 1).status(0)
            .cells(0, 149, Probe.encoded(0, 78)).cells(0, 100, 37460).look(5, 0).run(1, 0).cells(0, 0, 37460).look(7, 5);
        new Probe("taken at the place 0").command(5).run(149, 0).give(1).status(1).run(1, 1).status(1).cells(0, 0, 0).run(1, 0).status(3)
            .cells(0, 0, Probe.encoded(0, 1)).cells(0, 1, 0);
        new Probe("LOST or not, it ends at the INDEX").command(5).give(1).run(150, 1).run(149, 0).status(7).run(1, 1).status(4).cells(0, 149, 43690);
    }

    private static void bytesAndMarks() {
        int[] bytes = {78, 0, 0, 245, 245, 0, 161, 255, 1, 128, 244, 246, 248, 251, 254, 0, 127, 245, 64};
        Probe p = new Probe("cells");
        int[] runs = new int[2 * bytes.length];
        for (int i = 0; i < bytes.length; i++) {
            runs[2 * i] = bytes[i];
            runs[2 * i + 1] = 1;
        }
        p.format(runs);
        int before = 0;
        for (int i = 0; i < bytes.length; i++) {
            boolean isMark = bytes[i] == 245;
            p.cells(0, i, isMark ? MARK : Probe.encoded(before, bytes[i]));
            before = isMark ? 1 : bytes[i] & 1;
        }
        p.cells(0, bytes.length, 43690).cells(0, 149, 43690).cells(1, 0, 0);
    }

    private static int check(int... bytes) {
        java.util.List<Integer> all = new java.util.ArrayList<>();
        for (int b : bytes) {
            all.add(b);
        }
        return Probe.plainCheck(all);
    }

    /** Compares the two bytes of a check that stand at k, behind a bit. */
    private static Probe atCell(Probe p, int k, int before, int check) {
        return p.cells(0, k, Probe.encoded(before, check >> 8)).cells(0, k + 1, Probe.encoded(check >> 8 & 1, check & 255));
    }

    private static void checks() {
        atCell(new Probe("nothing before it").format(247, 1), 0, 0, 65535);
        atCell(new Probe("no mark").format(1, 1, 2, 1, 3, 1, 247, 1), 3, 1, check(1, 2, 3));
        atCell(new Probe("a mark").format(1, 1, 2, 1, 245, 1, 9, 1, 247, 1), 4, 1, check(161, 9));
        atCell(new Probe("marks").format(78, 2, 245, 3, 254, 1, 247, 1), 6, 0, check(161, 161, 161, 254));
        atCell(new Probe("four marks").format(245, 4, 2, 1, 247, 1), 5, 0, check(161, 161, 161, 161, 2));
        atCell(new Probe("a mark right before it").format(78, 1, 245, 2, 247, 1), 3, 1, check(161, 161));
        // The latest group of marks begins the check, an earlier one is forgotten.
        atCell(new Probe("two groups").format(245, 3, 1, 1, 245, 2, 3, 1, 247, 1), 7, 1, check(161, 161, 3));
        // A byte 161 is no mark.
        atCell(new Probe("161 is a byte").format(245, 1, 161, 1, 245, 1, 5, 1, 247, 1), 4, 1, check(161, 5));
        atCell(new Probe("161 begins none").format(7, 1, 161, 1, 5, 1, 247, 1), 3, 1, check(7, 161, 5));
        // A check that was written does not count in the one that follows.
        Probe p = new Probe("a second check").format(245, 3, 254, 1, 247, 1, 247, 1, 9, 1, 247, 1);
        int first = check(161, 161, 161, 254);
        atCell(p, 4, 0, first);
        atCell(p, 6, first & 1, first);
        atCell(p.cells(0, 8, Probe.encoded(first & 1, 9)), 9, 1, check(161, 161, 161, 254, 9));
        // Behind a check a mark does not stand behind a mark.
        Probe q = new Probe("a mark behind a check").format(245, 1, 247, 1, 245, 1, 9, 1, 247, 1);
        atCell(q, 1, 1, check(161));
        atCell(q.cells(0, 3, MARK), 5, 1, check(161, 9));
    }

    private static void checkAtTheEnd() {
        // For the lower byte there is no room; the next FORMAT does not begin with it.
        Probe p = new Probe("half a check").format(0, 100, 0, 49, 247, 1).cells(0, 148, 43690);
        int[] zeros = new int[149];
        p.cells(0, 149, Probe.encoded(0, check(zeros) >> 8)).cells(0, 0, 43690);
        p.format(78, 1).cells(0, 0, 37460).cells(0, 1, 43690);
        // Nor does it with the bit, the check or the mark of the one before.
        atCell(new Probe("anew").format(255, 100, 255, 49, 245, 1).format(0, 1, 247, 1).cells(0, 0, 43690), 1, 0, check(0));
        atCell(new Probe("anew with a mark").format(255, 100, 255, 49, 245, 1).format(245, 1, 247, 1).cells(0, 0, MARK), 1, 1, check(161));
    }

    private static void asksNotForTheSecondHalf() {
        Probe p = new Probe("the second half").command(5).give(247).run(151, 1).status(3).give(50).status(1).run(1, 0).status(1).run(1, 0)
            .status(3).cells(0, 2, Probe.encoded(1, 50));
        p.cells(0, 0, Probe.encoded(0, 255)).cells(0, 1, Probe.encoded(1, 255));
        // DRQ stays as it is, and LOST is not set, as nothing is asked.
        new Probe("DRQ stays").command(5).give(247).run(151, 1).status(3).run(1, 0).status(3).run(1, 0).status(7);
    }

    private static void lost() {
        new Probe("LOST").command(5).give(255).run(151, 1).status(3).run(1, 0).status(7).cells(0, 0, Probe.encoded(0, 255))
            .cells(0, 1, Probe.encoded(1, 0)).look(3, 255).give(7).status(5).run(1, 0).status(7).cells(0, 2, Probe.encoded(0, 7));
        // The 0 that is written for a lost byte is a byte, though DATA may be 245.
        new Probe("no mark when LOST").command(5).give(245).run(152, 1).cells(0, 0, MARK).cells(0, 1, Probe.encoded(1, 0));
    }

    private static void forced() {
        new Probe("forced before").command(5).give(78).run(100, 0).force(true).status(0).run(100, 1).cells(0, 0, 0);
        new Probe("forced in a check").command(5).give(247).run(151, 1).force(true).run(149, 1).cells(0, 1, 0).command(5).give(78).run(151, 1)
            .cells(0, 0, 37460);
    }

    private static void readerAroundWriting() {
        // While it awaits the INDEX cells are read; while it writes, none are.
        new Probe("before").paint(0, 0, Probe.MARK).command(5).run(1, 0).look(6, 1);
        new Probe("writing").command(5).give(245).run(151, 1).cells(0, 0, MARK).look(6, 0).give(245).run(1, 0).look(6, 0);
        // A mark half written and half behind the end of writing is none.
        new Probe("behind").paint(0, 0, Probe.MARK).goTo(0).command(5).give(245).run(151, 1).force(true).look(6, 0)
            .paint(0, 16, Probe.MARK.substring(2)).run(1, 0).look(6, 0);
        new Probe("a turn, then read").format(78, 8, 245, 3, 254, 1, 3, 1, 0, 1, 4, 1, 1, 1, 247, 1).command(4).serve(150, 5).status(0)
            .look(2, 3).buffer(2, 4);
    }
}
