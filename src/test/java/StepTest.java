/** RESTORE and SEEK. */
public final class StepTest {
    public static void main(String[] args) {
        seekUp();
        seekDown();
        seekBeyondTheTracks();
        seekFollowsData();
        restore();
        restoreEndsByData();
        otherTracksAreRead();
        Probe.finish("StepTest");
    }

    private static void seekUp() {
        new Probe("SEEK nowhere").command(1).run(2, 0).status(1).run(1, 0).status(0).look(1, 0).look(4, 0);
        new Probe("SEEK up").give(2).command(1).status(1).run(2, 0).look(1, 0).run(1, 0).look(1, 1).look(4, 1).status(1)
            .run(2, 0).look(1, 1).run(1, 0).look(1, 2).look(4, 2).status(1).run(2, 0).status(1).run(1, 0).status(0)
            .look(1, 2).look(4, 2).look(3, 2).run(30, 0).look(4, 2);
    }

    private static void seekDown() {
        new Probe("SEEK down").give(3).command(1).run(12, 0).status(0).look(4, 3).give(1).command(1).run(3, 0).look(1, 2)
            .look(4, 2).run(3, 0).look(1, 1).look(4, 1).status(1).run(3, 0).status(0).look(1, 1).look(4, 1);
        // TRACK need not tell where the head is.
        new Probe("SEEK from a wrong TRACK").set(0, 200).give(198).command(1).run(6, 0).look(1, 198).look(4, 0).status(1)
            .run(3, 0).status(0);
    }

    private static void seekBeyondTheTracks() {
        new Probe("SEEK far up").give(255).command(1).run(9, 0).look(4, 3).look(1, 3).run(3, 0).look(4, 3).look(1, 4)
            .run(200, 1).run(200, 1).run(200, 2).run(152, 1).status(1).look(1, 254).run(1, 0).look(1, 255).status(1)
            .run(3, 0).status(0).look(4, 3).look(1, 255);
        new Probe("SEEK below 0").set(0, 3).command(1).run(9, 0).look(1, 0).look(4, 0).status(1).run(3, 0).status(0);
    }

    private static void seekFollowsData() {
        new Probe("SEEK, DATA changed").give(3).command(1).run(6, 0).look(1, 2).give(1).run(3, 0).look(1, 1).look(4, 1)
            .status(1).run(3, 0).status(0).look(1, 1);
        new Probe("SEEK, DATA reached").give(3).command(1).run(5, 0).give(1).run(1, 0).status(0).look(1, 1);
    }

    private static void restore() {
        new Probe("RESTORE at 0").set(0, 9).give(8).command(0).look(1, 255).look(3, 0).status(1).run(2, 0).status(1)
            .look(1, 255).run(1, 0).status(0).look(1, 0).look(3, 0).look(4, 0);
        new Probe("RESTORE from 3").give(3).command(1).run(12, 0).look(4, 3).command(0).run(3, 0).look(1, 254).look(4, 2)
            .run(3, 0).look(1, 253).look(4, 1).run(3, 0).look(1, 252).look(4, 0).status(1).run(2, 0).status(1)
            .look(1, 252).run(1, 0).status(0).look(1, 0).look(4, 0);
        new Probe("SEEK ends by TRACK alone").set(0, 5).command(1).run(3, 0).look(1, 4).look(4, 0).status(1);
    }

    private static void restoreEndsByData() {
        new Probe("RESTORE, DATA 255").give(1).command(1).run(6, 0).look(4, 1).command(0).give(255).run(3, 0).status(0)
            .look(1, 255).look(4, 1);
        new Probe("RESTORE, the head first").command(0).give(255).run(3, 0).status(0).look(1, 0);
    }

    private static void otherTracksAreRead() {
        // The disk goes round while the head steps, and the head reads and writes where it stands.
        new Probe("read on track 2").paint(2, 320, Probe.field(true, 254, 2, 0, 7, 0)).give(2).command(1).run(9, 0).look(5, 144)
            .status(0).command(4).run(200, 1).status(4).look(2, 2);
        new Probe("write on track 1").give(1).command(1).run(6, 0).command(5).give(78).run(145, 1).cells(1, 0, 37460)
            .cells(0, 0, 0).cells(2, 0, 0);
        // The head leaves the track within a field: the cells of the other track go on with it.
        new Probe("a field over two tracks").paint(0, 0, Probe.MARK + Probe.MARK + Probe.MARK).paint(1, 48, Probe.clockless(254))
            .give(1).command(1).run(3, 0).look(6, 1).look(4, 1).run(1, 0).look(6, 1).run(5, 0).look(6, 1).run(1, 0).look(6, 0);
    }
}
