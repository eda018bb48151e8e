/** Each promise's own words, its edges and wrong inputs; what the commands do has tests of its own. */
public final class PromisesTest {
    private static final int MIN = Integer.MIN_VALUE;
    private static final int MAX = Integer.MAX_VALUE;

    public static void main(String[] args) {
        newObject();
        commandIsTaken();
        commandIsRefused();
        commandDropsMarks();
        force();
        set();
        give();
        take();
        run();
        serveTakes();
        serveGives();
        serveFullBuffer();
        clear();
        fill();
        buffer();
        protect();
        spoil();
        cells();
        look();
        Probe.finish("PromisesTest");
    }

    private static void newObject() {
        Probe p = new Probe("1 new");
        for (int which = 0; which < 7; which++) {
            p.look(which, 0);
        }
        p.look(7, -1).buffer(-1, 0).buffer(0, -1);
        for (int k = 0; k < 150; k += 1) {
            p.cells(0, k, 0).cells(k % 4, k, 0);
        }
        p.command(3).status(1);
        Probe other = new Probe("1 two objects");
        new Probe("1 the other").give(9).spoil(0, 0, true).fill(1, 1).run(1, 0).look(3, 9);
        other.look(3, 0).cells(0, 0, 0).buffer(-1, 0).look(5, 0);
    }

    private static void commandIsTaken() {
        for (int c = 0; c < 6; c++) {
            new Probe("2 command " + c).command(c).status(c == 5 ? 3 : 1).look(7, c).look(5, 0);
            new Probe("2 command " + c + " deleted").command(c, true, true).status(c == 5 ? 3 : 1).look(7, c);
        }
    }

    private static void commandIsRefused() {
        for (int c : new int[] {-1, 6, 7, MIN, MAX}) {
            new Probe("2 no command " + c).command(c, false, false).command(c, true, false).status(0).look(7, -1).force(false);
        }
        for (int c = -1; c < 7; c++) {
            new Probe("2 busy, " + c).set(0, 7).give(5).command(2).command(c, false, false).status(1).look(7, 2)
                .look(1, 7).look(3, 5);
        }
        // Refused, it does not begin the count of byte times anew.
        new Probe("2 busy stepping").give(1).command(1).run(2, 0).command(1, false, false).run(1, 0).look(1, 1);
    }

    private static void commandDropsMarks() {
        new Probe("2 PROTECTED goes").protect(true).command(3).status(64).command(2).status(1);
        new Probe("2 PROTECTED goes at a refusal too").protect(true).command(5).status(64).command(5).status(64);
        new Probe("2 LOST goes").command(5).run(150, 1).status(4).command(1).status(1).run(3, 0).status(0);
        new Probe("2 MISSING goes").command(4).run(200, 1).run(200, 1).run(200, 2).run(150, 1).status(16)
            .command(-1, false, false).status(16).command(4).status(1);
        new Probe("2 a refused one leaves marks").protect(true).command(3).command(6, false, false).status(64).look(7, 3);
    }

    private static void force() {
        new Probe("3 nothing to end").force(false).status(0).look(7, -1);
        for (int c = 0; c < 6; c++) {
            new Probe("3 command " + c).command(c).run(2, 0).force(true).status(0).force(false).look(7, c).look(5, 32)
                .command(2).status(1);
        }
        new Probe("3 stepping stops").give(3).command(1).run(3, 0).force(true).run(30, 0).look(1, 1).look(4, 1);
        new Probe("3 marks stay").command(5).give(78).run(151, 1).run(1, 0).status(7).force(true).status(4);
        new Probe("3 writing stops").command(5).give(78).run(152, 1).force(true).run(3, 0)
            .cells(0, 0, 37460).cells(0, 1, 43690).cells(0, 2, 0).cells(0, 3, 0);
        new Probe("3 ended already").protect(true).command(3).force(false).status(64);
    }

    private static void set() {
        new Probe("4 TRACK").set(0, 3).look(1, 3).look(2, 0).set(0, 0).look(1, 0).set(0, 255).look(1, 255).look(4, 0);
        new Probe("4 SECTOR").set(1, 9).look(2, 9).look(1, 0).set(1, 255).look(2, 255).set(1, 0).look(2, 0).look(3, 0);
        for (int v : new int[] {-1, 256, MIN, MAX}) {
            new Probe("4 no byte " + v).set(0, 5).set(1, 6).set(0, v, false).set(1, v, false).look(1, 5).look(2, 6);
        }
        for (int register : new int[] {-1, 2, 3, MIN, MAX}) {
            new Probe("4 no register " + register).set(register, 5, false).look(1, 0).look(2, 0).look(3, 0);
        }
        new Probe("4 busy").command(2).set(0, 5, false).set(1, 5, false).look(1, 0).look(2, 0)
            .force(true).set(0, 5).set(1, 6).look(1, 5).look(2, 6);
    }

    private static void give() {
        new Probe("5 DATA").give(200).look(3, 200).give(0).look(3, 0).give(255).look(3, 255).status(0);
        for (int v : new int[] {-1, 256, MIN, MAX}) {
            new Probe("5 no byte " + v).give(7).command(5).give(v, false).look(3, 7).status(3);
        }
        new Probe("5 DRQ goes").command(5).status(3).give(7).status(1).look(3, 7);
    }

    private static void take() {
        new Probe("6 DATA").take(0).give(77).take(77).take(77).status(0);
        new Probe("6 DRQ goes").give(5).command(5).status(3).take(5).status(1).look(3, 5);
    }

    private static void run() {
        for (int n : new int[] {-1, 201, MIN, MAX}) {
            new Probe("7 no run " + n).run(n, -1).look(5, 0);
        }
        new Probe("7 place").run(0, 0).look(5, 0).run(1, 0).look(5, 16).run(148, 0).look(5, 2384).run(1, 1).look(5, 0)
            .run(200, 1).look(5, 800).run(200, 1).look(5, 1600).run(200, 2).look(5, 0).run(0, 0);
        new Probe("7 it asks for nothing").command(5).run(10, 0).status(3).buffer(-1, 0);
    }

    private static void serveTakes() {
        Probe p = new Probe("8 READ").paint(0, 0, Probe.field(true, 254, 0, 0, 0, 0))
            .paint(0, 160, Probe.field(true, 251, 1, 0, 0, 0, 0, 0, 0, 0, 0, 0, 0, 0, 0, 0, 0, 2));
        for (int n : new int[] {-1, 201, MIN, MAX}) {
            p.serve(n, -1);
        }
        p.look(5, 0).fill(9, 1).command(2).serve(0, 0).serve(14, 0).status(1).serve(1, 1).status(1).look(3, 1)
            .serve(200, 15).status(0).buffer(-1, 17).buffer(0, 9).buffer(1, 1).buffer(2, 0).buffer(16, 2).buffer(17, -1)
            .look(5, 1040);
        // DRQ that was set before serve is taken behind the first byte time, but LOST is not set by serve's own bytes.
        p.goTo(0).clear().command(2).run(15, 0).status(3).serve(0, 0).status(3).serve(1, 1).status(5).buffer(0, 0);
    }

    private static void serveGives() {
        new Probe("8 FORMAT").fill(11, 1).fill(22, 1).command(5).serve(1, 1).look(3, 11).serve(1, 0).serve(148, 0)
            .serve(1, 1).look(3, 22).status(1).buffer(-1, 2).serve(1, 1).look(3, 0).serve(1, 1).look(3, 0)
            .fill(33, 1).serve(1, 1).look(3, 33).cells(0, 0, Probe.encoded(0, 11)).cells(0, 1, Probe.encoded(1, 22));
        new Probe("8 SEEK asks nothing").fill(5, 3).give(2).command(1).serve(9, 0).look(3, 2).look(1, 2).buffer(-1, 3);
        new Probe("8 no command").fill(5, 3).serve(200, 0).look(5, 800).look(3, 0);
        // What READ took is what WRITE is given, if no clear() comes between.
        new Probe("8 taken, then given").paint(0, 0, Probe.field(true, 254, 0, 0, 0, 0)).command(4).serve(12, 5)
            .buffer(-1, 5).fill(44, 1).command(5).serve(1, 1).look(3, 0).serve(136, 0).serve(4, 3).look(3, 0)
            .serve(1, 1).look(3, Probe.checkOf(254, 0, 0, 0, 0) >> 8).serve(1, 1).look(3, 44);
    }

    private static void serveFullBuffer() {
        new Probe("8 a full buffer").paint(0, 0, Probe.field(true, 254, 3, 4, 5, 6)).fill(7, 100).fill(7, 97)
            .command(4).serve(200, 5).buffer(-1, 200).buffer(196, 7).buffer(197, 3).buffer(198, 4).buffer(199, 5)
            .buffer(200, -1).status(0).look(3, Probe.checkOf(254, 3, 4, 5, 6) & 255);
    }

    private static void clear() {
        new Probe("9 empty").clear().buffer(-1, 0).fill(5, 3).buffer(-1, 3).clear().buffer(-1, 0).buffer(0, -1)
            .fill(6, 1).buffer(0, 6).buffer(1, -1);
        new Probe("9 the next byte is the first").fill(1, 3).command(5).serve(1, 1).clear().fill(8, 1).fill(9, 1)
            .give(0).serve(150, 1).look(3, 8).serve(1, 1).look(3, 9);
        new Probe("9 registers stay").give(5).set(0, 6).clear().look(3, 5).look(1, 6);
    }

    private static void fill() {
        new Probe("10 bytes").fill(0, 1).fill(255, 2).buffer(-1, 3).buffer(0, 0).buffer(1, 255).buffer(2, 255).buffer(3, -1);
        for (int v : new int[] {-1, 256, MIN, MAX}) {
            new Probe("10 no byte " + v).fill(v, 1, false).buffer(-1, 0);
        }
        for (int count : new int[] {0, -1, 101, MIN, MAX}) {
            new Probe("10 no count " + count).fill(1, count, false).buffer(-1, 0);
        }
        new Probe("10 at most 200").fill(1, 100).fill(2, 99).fill(3, 2, false).buffer(-1, 199).buffer(199, -1)
            .fill(4, 1).buffer(-1, 200).buffer(0, 1).buffer(99, 1).buffer(100, 2).buffer(198, 2).buffer(199, 4)
            .fill(5, 1, false).buffer(200, -1).clear().fill(6, 100).buffer(-1, 100);
        // Bytes that were given still stand in the buffer.
        new Probe("10 given ones count").fill(1, 100).fill(1, 100).command(5).serve(10, 1).fill(1, 1, false).buffer(-1, 200);
    }

    private static void buffer() {
        new Probe("11 none such").fill(5, 2).buffer(-2, -1).buffer(2, -1).buffer(200, -1).buffer(MIN, -1).buffer(MAX, -1)
            .buffer(0, 5).buffer(1, 5).buffer(-1, 2);
    }

    private static void protect() {
        new Probe("12 protected").protect(true).command(3).status(64).command(5).status(64).look(7, 5)
            .protect(false).command(3).status(1).force(true).command(5).status(3);
        new Probe("12 others do not ask").protect(true).command(0).status(1).run(3, 0).status(0).command(1).status(1)
            .force(true).command(2).status(1).force(true).command(4).status(1);
        new Probe("12 twice").protect(true).protect(true).command(3).status(64).protect(false).command(3).status(1);
        // It counts when the command is taken, not behind that.
        new Probe("12 too late").command(5).protect(true).give(78).run(151, 1).run(1, 0).status(7).cells(0, 0, 37460);
        new Probe("12 spoil all the same").protect(true).spoil(1, 0, true).cells(1, 0, 32768);
    }

    private static void spoil() {
        new Probe("13 edges").spoil(0, 0, true).cells(0, 0, 32768).spoil(0, 15, true).cells(0, 0, 32769)
            .spoil(0, 16, true).cells(0, 1, 32768).spoil(3, 2399, true).cells(3, 149, 1).cells(3, 148, 0).cells(2, 149, 0)
            .spoil(1, 0, true).cells(1, 0, 32768).cells(0, 149, 0).spoil(0, 0, true).cells(0, 0, 1);
        int[][] none = {{-1, 0}, {4, 0}, {0, -1}, {0, 2400}, {3, 2400}, {MIN, 0}, {MAX, 0}, {0, MIN}, {0, MAX}, {4, -2400}};
        for (int[] tk : none) {
            new Probe("13 none such").spoil(tk[0], tk[1], false).cells(0, 0, 0).cells(0, 149, 0).cells(1, 0, 0).cells(3, 149, 0);
        }
        new Probe("13 the head stays").spoil(2, 100, true).look(4, 0).look(5, 0).cells(2, 6, 2048);
    }

    private static void cells() {
        Probe p = new Probe("14 bits");
        for (int i = 0; i < 16; i++) {
            p.spoil(2, 160 + i, true).cells(2, 10, 65536 - (32768 >> i));
        }
        p.cells(2, 9, 0).cells(2, 11, 0).cells(1, 10, 0).cells(3, 10, 0);
        int[][] none = {{-1, 0}, {4, 0}, {0, -1}, {0, 150}, {1, 150}, {MIN, 0}, {MAX, 0}, {0, MIN}, {0, MAX}, {1, -1}};
        for (int[] tk : none) {
            p.cells(tk[0], tk[1], -1);
        }
        p.cells(0, 149, 0).cells(3, 0, 0).cells(3, 149, 0);
    }

    private static void look() {
        new Probe("15 none such").look(8, -1).look(-1, -1).look(MIN, -1).look(MAX, -1);
        new Probe("15 each").set(0, 1).set(1, 2).give(3).command(1).run(3, 0).status(1).look(1, 2).look(2, 2).look(3, 3)
            .look(4, 1).look(5, 48).look(6, 0).look(7, 1);
        new Probe("15 DRQ stays").give(8).command(5).look(3, 8).status(3).look(3, 8).status(3);
        new Probe("15 in STEP").paint(0, 0, Probe.MARK).look(6, 0).run(1, 0).look(6, 1).run(1, 0).look(6, 0);
    }
}
