/**
 * The limits that the promises name, a test for each sentence: just inside the limit, at it and just beyond it.
 * That a refused call changes nothing has RefusedCallsTest.
 */
public final class PromiseLimitsTest {
    private static final int MIN = Integer.MIN_VALUE;
    private static final int MAX = Integer.MAX_VALUE;
    private static final int[] NO_BYTES = {-1, 256, -256, 257, MIN, MAX};

    public static void main(String[] args) {
        newObject();
        commandIsOneOfSix();
        commandWhileBusy();
        deletedCountsForWriteAlone();
        forceWhileNotBusy();
        forceSetsNothingElse();
        setOfARegister();
        setOfAByte();
        setWhileBusy();
        giveOfAByte();
        giveWhenever();
        takeWhenever();
        runOf0To200();
        runCountsIndexes();
        serveOf0To200();
        serveByCommand();
        serveBehindTheEnd();
        serveIntoAFullBuffer();
        clearOfAnEmptyAndAFullBuffer();
        clearTakesTheNextByteBack();
        fillOfAByte();
        fillOf1To100();
        fillUpTo200();
        bufferOfWhatThereIs();
        protectCountsWhenTaken();
        spoilOfWhatThereIs();
        cellsOfWhatThereAre();
        lookAt0To7();
        the512Calls();
        Probe.finish("PromiseLimitsTest");
    }

    private static void newObject() {
        Probe low = new Probe("1: all cells 0 at first, tracks 0 and 1");
        Probe high = new Probe("1: all cells 0 at first, tracks 2 and 3");
        for (int k = 0; k < 150; k++) {
            low.cells(0, k, 0).cells(1, k, 0);
            high.cells(2, k, 0).cells(3, k, 0);
        }
        Probe p = new Probe("1: the controller, the head and the reader at first");
        for (int which = 0; which < 7; which++) {
            p.look(which, 0);
        }
        p.look(7, -1).force(false).take(0).buffer(-1, 0).buffer(0, -1);
        new Probe("1: not protected at first, WRITE").command(3).status(1);
        new Probe("1: not protected at first, FORMAT").command(5).status(3);
        new Probe("1: the BUFFER is empty at first").command(5).serve(1, 1).look(3, 0).buffer(-1, 0);
    }

    private static void commandIsOneOfSix() {
        int[] begins = {1, 1, 1, 1, 1, 3};
        for (int c = 0; c < 6; c++) {
            new Probe("2: command " + c).command(c, false, true).status(begins[c]).look(7, c);
        }
        for (int c : new int[] {-1, 6, -2, 7, 256, 261, MIN, MAX}) {
            new Probe("2: false if it is none, " + c).command(c, false, false).status(0).look(7, -1);
            new Probe("2: false if it is none, deleted " + c).command(c, true, false).status(0).look(7, -1);
        }
    }

    private static void commandWhileBusy() {
        for (int c = 0; c < 6; c++) {
            Probe p = new Probe("2: false if BUSY with " + c).command(c);
            for (int other = 0; other < 6; other++) {
                p.command(other, false, false).command(other, true, false).look(7, c);
            }
            p.force(true).command(c, false, true).look(7, c);
        }
        // BUSY up to the third byte time, and free right behind it.
        new Probe("2: free when it ENDED").command(1).run(2, 0).command(2, false, false).look(7, 1).run(1, 0).command(2).look(7, 2);
        new Probe("2: free when it ENDED at once").protect(true).command(3).command(5).command(3).status(64).command(1).status(1);
        new Probe("2: free at the INDEX").command(5).run(149, 0).command(2, false, false).run(1, 1).command(2).status(1);
    }

    private static void deletedCountsForWriteAlone() {
        int[] begins = {251, 248};
        for (int i = 0; i < 2; i++) {
            new Probe("2: deleted counts for WRITE, " + begins[i]).paint(0, 0, ReadTest.id(0, 0, 0)).command(3, i == 1, true)
                .serve(28, 1).cells(0, 27, Probe.encoded(1, begins[i]));
        }
        String fields = ReadTest.id(0, 0, 0) + ReadTest.data(true, 251, 16, 1, 2);
        new Probe("2: deleted is nothing to READ").paint(0, 0, fields).command(2, true, true).serve(32, 16).status(0);
        new Probe("2: deleted is nothing to ADDRESS").paint(0, 0, fields).command(4, true, true).serve(10, 5).status(0);
        new Probe("2: deleted is nothing to SEEK").give(1).command(1, true, true).run(6, 0).status(0).look(1, 1).look(4, 1);
        new Probe("2: deleted is nothing to RESTORE").command(0, true, true).run(3, 0).status(0).look(1, 0);
        new Probe("2: deleted is nothing to FORMAT").command(5, true, true).give(251).run(151, 1).cells(0, 0, Probe.encoded(0, 251));
        // That of the command before is forgotten.
        new Probe("2: deleted of an earlier command").paint(0, 0, ReadTest.id(0, 0, 0)).command(3, true, true).force(true).command(3)
            .serve(28, 1).cells(0, 27, Probe.encoded(1, 251));
    }

    private static void forceWhileNotBusy() {
        new Probe("3: false if it is not BUSY, new").force(false).status(0);
        for (int c = 0; c < 6; c++) {
            new Probe("3: just taken " + c).command(c).force(true).status(0).look(7, c).force(false);
        }
        new Probe("3: the last byte time").command(1).run(2, 0).force(true).force(false);
        new Probe("3: ended by itself").command(1).run(3, 0).force(false).status(0);
        new Probe("3: ended at once").protect(true).command(5).force(false).status(64);
    }

    private static void forceSetsNothingElse() {
        new Probe("3: with nothing else set, hunting").command(2).run(149, 0).force(true).status(0).run(1, 1).status(0);
        new Probe("3: with nothing else set, waiting").paint(0, 0, ReadTest.id(0, 0, 0)).command(3).run(19, 0).status(3).force(true)
            .status(0).run(1, 0).status(0);
        new Probe("3: with nothing else set, before the INDEX").command(5).run(149, 0).status(3).force(true).status(0).run(1, 1).status(0);
        new Probe("3: what was set stays").paint(0, 0, Probe.field(false, 254, 0, 0, 0, 0)).command(2).run(10, 0).status(9).force(true).status(8);
        new Probe("3: SECTOR stays").paint(0, 0, ReadTest.id(7, 0, 0)).command(4).run(9, 0).status(7).force(true).status(4).look(2, 0);
        new Probe("3: writing stops").command(5).give(255).run(151, 1).status(3).force(true).status(0).run(3, 0)
            .cells(0, 0, Probe.encoded(0, 255)).cells(0, 1, 0).look(5, 64);
    }

    private static void setOfARegister() {
        new Probe("4: TRACK is 0").set(0, 7, true).look(1, 7).look(2, 0).look(3, 0).look(4, 0);
        new Probe("4: SECTOR is 1").set(1, 7, true).look(1, 0).look(2, 7).look(3, 0).look(4, 0);
        for (int register : new int[] {-1, 2, 3, 4, MIN, MAX}) {
            new Probe("4: there is no register " + register).set(register, 7, false).look(1, 0).look(2, 0).look(3, 0).look(4, 0).look(5, 0);
        }
    }

    private static void setOfAByte() {
        for (int register = 0; register < 2; register++) {
            int which = 1 + register;
            new Probe("4: 0 .. 255, register " + register).set(register, 1).look(which, 1).set(register, 0).look(which, 0)
                .set(register, 254).look(which, 254).set(register, 255).look(which, 255);
            for (int v : NO_BYTES) {
                new Probe("4: not 0 .. 255, register " + register).set(register, 9).set(register, v, false).look(which, 9);
            }
        }
    }

    private static void setWhileBusy() {
        for (int c = 0; c < 6; c++) {
            int track = c == 0 ? 255 : 3;
            new Probe("4: BUSY with " + c).set(0, 3).set(1, 4).command(c).set(0, 9, false).set(1, 9, false).look(1, track).look(2, 4)
                .force(true).set(0, 9).set(1, 9).look(1, 9).look(2, 9);
        }
        new Probe("4: BUSY up to the end").command(1).run(2, 0).set(1, 9, false).run(1, 0).set(1, 9).look(2, 9);
    }

    private static void giveOfAByte() {
        new Probe("5: 0 .. 255").give(1).look(3, 1).give(0).look(3, 0).give(254).look(3, 254).give(255).look(3, 255);
        for (int v : NO_BYTES) {
            new Probe("5: not 0 .. 255, " + v).give(9).give(v, false).look(3, 9);
            new Probe("5: DRQ stays at " + v).command(5).give(v, false).status(3);
        }
    }

    private static void giveWhenever() {
        for (int c = 0; c < 6; c++) {
            new Probe("5: BUSY or not, " + c).command(c).give(77).look(3, 77).status(1).force(true).give(78).look(3, 78).status(0);
        }
    }

    private static void takeWhenever() {
        for (int c = 1; c < 6; c++) {
            new Probe("6: BUSY or not, " + c).give(77).command(c).take(77).status(1).take(77).force(true).take(77).status(0);
        }
        new Probe("6: 0 and 255").give(255).take(255).give(0).take(0);
    }

    private static void runOf0To200() {
        int[] all = {0, 1, 2, 149, 150, 151, 199, 200};
        for (int n : all) {
            new Probe("7: 0 .. 200, " + n).run(n, n / 150).look(5, n % 150 * 16);
        }
        for (int n : new int[] {-1, 201, -200, 256, 300, MIN, MAX}) {
            new Probe("7: NONE for " + n).run(n, -1).look(5, 0).goTo(149).run(n, -1).look(5, 2384);
        }
    }

    private static void runCountsIndexes() {
        for (int k = 0; k < 150; k++) {
            Probe p = new Probe("7: how many INDEXES, from byte " + k).goTo(k);
            p.run(149 - k, 0).run(1, 1).run(149, 0).goTo(k).run(150, 1).run(200, k < 100 ? 1 : 2);
        }
        // From byte 100 the second INDEX is in the 200th byte time, from byte 99 it would be in the 201st.
        new Probe("7: two INDEXES").goTo(100).run(200, 2).look(5, 0);
        new Probe("7: one INDEX").goTo(99).run(200, 1).look(5, 2384);
    }

    private static void serveOf0To200() {
        for (int n : new int[] {0, 1, 2, 149, 150, 151, 199, 200}) {
            new Probe("8: 0 .. 200, " + n).serve(n, 0).look(5, n % 150 * 16);
        }
        for (int n : new int[] {-1, 201, -200, 256, 300, MIN, MAX}) {
            new Probe("8: NONE for " + n).fill(5, 3).command(5).serve(n, -1).status(3).look(5, 0).look(3, 0).serve(1, 1).look(3, 5);
        }
        // Without a byte time nothing is served, though DRQ be set.
        new Probe("8: no byte time").fill(5, 1).command(5).serve(0, 0).status(3).look(3, 0).serve(1, 1).status(1).look(3, 5);
    }

    private static void serveByCommand() {
        String id = ReadTest.id(0, 0, 0);
        new Probe("8: READ takes").paint(0, 0, id + ReadTest.data(true, 251, 16, 3, 4)).fill(9, 1).command(2).serve(14, 0).buffer(-1, 1)
            .serve(1, 1).buffer(-1, 2).buffer(1, 3).status(1);
        new Probe("8: ADDRESS takes").paint(0, 0, ReadTest.id(6, 0, 0)).fill(9, 1).command(4).serve(4, 0).serve(1, 1).buffer(1, 6).status(1);
        new Probe("8: WRITE gives").paint(0, 0, id).fill(9, 1).command(3).serve(9, 0).serve(1, 1).look(3, 9).buffer(-1, 1).status(1);
        new Probe("8: FORMAT gives").fill(9, 1).command(5).serve(1, 1).look(3, 9).buffer(-1, 1).status(1);
        new Probe("8: SEEK neither").fill(9, 1).give(3).command(1).serve(200, 0).look(3, 3).buffer(-1, 1);
        // With the last byte of its field DRQ goes: that one is not taken.
        new Probe("8: how many, ADDRESS").paint(0, 0, ReadTest.id(6, 0, 0)).command(4).serve(200, 5).buffer(-1, 5);
        new Probe("8: how many, READ").paint(0, 0, id + ReadTest.data(true, 251, 16, 3, 4)).command(2).serve(200, 16).buffer(-1, 16);
        new Probe("8: how many, WRITE").paint(0, 0, id).command(3).serve(200, 16).status(0);
        new Probe("8: how many, FORMAT").command(5).serve(150, 1).serve(149, 149).status(1).serve(1, 0).status(0);
    }

    private static void serveBehindTheEnd() {
        new Probe("8: the last byte, then 0").fill(8, 1).fill(9, 1).command(5).serve(1, 1).look(3, 8).serve(149, 0).serve(1, 1).look(3, 9)
            .serve(1, 1).look(3, 0).serve(1, 1).look(3, 0).buffer(-1, 2).cells(0, 0, Probe.encoded(0, 8))
            .cells(0, 1, Probe.encoded(0, 9)).cells(0, 2, Probe.encoded(1, 0));
        new Probe("8: 0 for an empty BUFFER").give(77).command(5).serve(1, 1).look(3, 0).buffer(-1, 0);
        new Probe("8: what comes later is the next").fill(8, 1).command(5).serve(152, 3).look(3, 0).fill(9, 1).serve(1, 1).look(3, 9)
            .serve(1, 1).look(3, 0);
        // Each of 200 bytes is given, and a 0 behind them: 150 in one turn, the others in the next.
        Probe p = new Probe("8: 200 bytes, then 0").fill(1, 100).fill(2, 99).fill(3, 1).command(5).serve(150, 1).serve(149, 149).look(3, 2)
            .serve(1, 0).status(0).command(5).serve(150, 1).serve(48, 48).look(3, 2).serve(1, 1).look(3, 3).serve(1, 1).look(3, 0);
        p.buffer(-1, 200).cells(0, 49, Probe.encoded(0, 3)).serve(1, 1).look(3, 0);
    }

    private static void serveIntoAFullBuffer() {
        int[] id = {3, 4, 5, 6, Probe.checkOf(254, 3, 4, 5, 6) >> 8};
        for (int room = 0; room <= 6; room++) {
            int kept = Math.min(room, 5);
            Probe p = new Probe("8: room for " + room + ", the others are lost").paint(0, 0, Probe.field(true, 254, 3, 4, 5, 6))
                .fill(7, 100).fill(7, 100 - room).command(4).serve(10, 5).status(0).buffer(-1, 200 - room + kept)
                .buffer(199 - room, 7).buffer(200, -1);
            for (int i = 0; i < 6; i++) {
                p.buffer(200 - room + i, i < kept ? id[i] : -1);
            }
        }
        // 16 bytes of a sector, 15 of which have room.
        new Probe("8: the last one of a sector is lost").paint(0, 0, ReadTest.id(0, 0, 0) + ReadTest.data(true, 251, 16, 8, 9))
            .fill(7, 100).fill(7, 85).command(2).serve(32, 16).status(0).buffer(-1, 200).buffer(185, 8).buffer(199, 0).look(3, 9);
        new Probe("8: none of a sector is lost").paint(0, 0, ReadTest.id(0, 0, 0) + ReadTest.data(true, 251, 16, 8, 9))
            .fill(7, 100).fill(7, 84).command(2).serve(32, 16).status(0).buffer(-1, 200).buffer(184, 8).buffer(199, 9);
    }

    private static void clearOfAnEmptyAndAFullBuffer() {
        new Probe("9: empty before").clear().buffer(-1, 0).buffer(0, -1);
        new Probe("9: one byte").fill(1, 1).clear().buffer(-1, 0).buffer(0, -1).fill(2, 1).buffer(0, 2).buffer(1, -1);
        new Probe("9: full before").fill(1, 100).fill(1, 100).clear().buffer(-1, 0).buffer(0, -1).buffer(199, -1).fill(2, 100).fill(2, 100)
            .buffer(-1, 200).buffer(0, 2).buffer(199, 2);
        // The rest stays: registers, marks, the head.
        new Probe("9: nothing else").set(0, 1).set(1, 2).give(3).command(5).run(4, 0).fill(1, 1).clear().status(3).look(1, 1).look(2, 2)
            .look(3, 3).look(5, 64).look(7, 5);
    }

    private static void clearTakesTheNextByteBack() {
        new Probe("9: behind one byte").fill(1, 2).command(5).serve(1, 1).look(3, 1).clear().fill(8, 1).fill(9, 1).serve(149, 0).serve(1, 1)
            .look(3, 8).serve(1, 1).look(3, 9).serve(1, 1).look(3, 0);
        new Probe("9: behind the end").command(5).serve(153, 4).clear().fill(8, 1).fill(9, 1).serve(1, 1).look(3, 8).serve(1, 1).look(3, 9);
        new Probe("9: not by fill").fill(1, 1).fill(2, 1).command(5).serve(1, 1).fill(3, 1).serve(150, 1).look(3, 2).serve(1, 1).look(3, 3);
        // Nor does a command take it back.
        new Probe("9: not by a command").fill(1, 1).fill(2, 1).command(5).serve(1, 1).force(true).command(5).serve(1, 1).look(3, 2);
    }

    private static void fillOfAByte() {
        for (int v : new int[] {0, 1, 254, 255}) {
            new Probe("10: 0 .. 255, " + v).fill(v, 1, true).buffer(-1, 1).buffer(0, v);
        }
        for (int v : NO_BYTES) {
            new Probe("10: not 0 .. 255, " + v).fill(5, 1).fill(v, 1, false).buffer(-1, 1).buffer(0, 5).buffer(1, -1);
        }
    }

    private static void fillOf1To100() {
        for (int count : new int[] {1, 2, 99, 100}) {
            new Probe("10: 1 .. 100, " + count).fill(6, count, true).buffer(-1, count).buffer(count - 1, 6).buffer(count, -1);
        }
        for (int count : new int[] {0, -1, 101, 102, 200, MIN, MAX}) {
            new Probe("10: not 1 .. 100, " + count).fill(5, 1).fill(6, count, false).buffer(-1, 1).buffer(0, 5).buffer(1, -1);
        }
    }

    private static void fillUpTo200() {
        for (int there : new int[] {100, 101, 150, 197, 198, 199, 200}) {
            for (int count : new int[] {1, 2, 3, 50, 99, 100}) {
                Probe p = new Probe("10: " + count + " behind " + there).fill(1, 100);
                if (there > 100) {
                    p.fill(1, there - 100);
                }
                boolean fits = there + count <= 200;
                p.fill(2, count, fits).buffer(-1, fits ? there + count : there).buffer(there - 1, 1).buffer(there, fits ? 2 : -1)
                    .buffer(there + count - 1, fits ? 2 : -1).buffer(there + count, -1);
            }
        }
        // Bytes that were given stand in the BUFFER still.
        new Probe("10: given bytes count").fill(1, 100).fill(2, 99).command(5).serve(1, 1).fill(3, 2, false).fill(3, 1).fill(3, 1, false);
    }

    private static void bufferOfWhatThereIs() {
        new Probe("11: empty").buffer(-1, 0).buffer(0, -1).buffer(1, -1).buffer(-2, -1);
        new Probe("11: one").fill(5, 1).buffer(-1, 1).buffer(0, 5).buffer(1, -1).buffer(-2, -1);
        Probe p = new Probe("11: full").fill(5, 100).fill(6, 99).fill(7, 1).buffer(-1, 200);
        p.buffer(0, 5).buffer(99, 5).buffer(100, 6).buffer(198, 6).buffer(199, 7).buffer(200, -1).buffer(201, -1);
        for (int k : new int[] {-2, -3, 200, 256, MIN, MIN + 1, MAX}) {
            p.buffer(k, -1);
        }
        p.buffer(-1, 200);
        // Bytes that were there before clear() are there no more.
        new Probe("11: behind the end").fill(5, 3).clear().fill(6, 1).buffer(0, 6).buffer(1, -1).buffer(2, -1);
    }

    private static void protectCountsWhenTaken() {
        for (int c = 0; c < 6; c++) {
            boolean writes = c == 3 || c == 5;
            new Probe("12: protected, " + c).protect(true).command(c).status(writes ? 64 : 1).look(7, c).force(!writes);
            new Probe("12: no more protected, " + c).protect(true).protect(false).command(c).status(c == 5 ? 3 : 1);
        }
        new Probe("12: twice is once").protect(true).protect(true).command(3).status(64).protect(false).command(3).status(1);
        // The command that was taken before goes on, and spoil asks nobody.
        new Probe("12: protected behind WRITE").paint(0, 0, ReadTest.id(0, 0, 0)).command(3).protect(true).serve(21, 1).status(1)
            .cells(0, 20, Probe.encoded(0, 0)).serve(26, 15).status(0).command(3).status(64);
        new Probe("12: protected behind FORMAT").command(5).protect(true).serve(151, 2).status(1).cells(0, 0, Probe.encoded(0, 0));
        new Probe("12: spoil all the same").protect(true).spoil(0, 0, true).cells(0, 0, 32768);
    }

    private static void spoilOfWhatThereIs() {
        for (int t = 0; t < 4; t++) {
            new Probe("13: track " + t).spoil(t, 0, true).spoil(t, 1, true).spoil(t, 2398, true).spoil(t, 2399, true).cells(t, 0, 49152)
                .cells(t, 149, 3).cells((t + 1) % 4, 0, 0).cells((t + 3) % 4, 149, 0).spoil(t, 0, true).cells(t, 0, 16384)
                .spoil(t, 2399, true).cells(t, 149, 2);
            for (int k : new int[] {-1, 2400, -2400, 2401, 4800, MIN, MAX}) {
                new Probe("13: no cell " + k + " of track " + t).spoil(t, k, false).cells(t, 0, 0).cells(t, 149, 0)
                    .cells((t + 1) % 4, 0, 0).cells((t + 3) % 4, 149, 0);
            }
        }
        for (int t : new int[] {-1, 4, -4, 5, MIN, MAX}) {
            for (int k : new int[] {-1, 0, 2399, 2400, 9600, -9600}) {
                new Probe("13: no track " + t + ", cell " + k).spoil(t, k, false).cells(0, 0, 0).cells(0, 149, 0).cells(3, 0, 0).cells(3, 149, 0);
            }
        }
    }

    private static void cellsOfWhatThereAre() {
        for (int t = 0; t < 4; t++) {
            Probe p = new Probe("14: track " + t).spoil(t, 0, true).spoil(t, 2399, true).cells(t, 0, 32768).cells(t, 149, 1).cells(t, 1, 0)
                .cells(t, 148, 0);
            for (int k : new int[] {-1, 150, -150, 151, 600, MIN, MAX}) {
                p.cells(t, k, -1);
            }
        }
        for (int t : new int[] {-1, 4, -4, 5, MIN, MAX}) {
            new Probe("14: no track " + t).cells(t, 0, -1).cells(t, 149, -1).cells(t, 150, -1).cells(t, -1, -1);
        }
        Probe full = new Probe("14: as a number, from 0 to 65535").cells(1, 149, 0);
        for (int i = 0; i < 16; i++) {
            full.spoil(1, 2399 - i, true).cells(1, 149, (2 << i) - 1);
        }
    }

    private static void lookAt0To7() {
        Probe p = new Probe("15: each").set(0, 11).set(1, 22).give(33).command(5).run(3, 0);
        int[] due = {3, 11, 22, 33, 0, 48, 0, 5};
        for (int which = 0; which < 8; which++) {
            p.look(which, due[which]);
        }
        for (int which : new int[] {-1, 8, 9, 256, MIN, MAX}) {
            p.look(which, -1);
        }
        p.status(3);
        new Probe("15: NONE if there was none").look(7, -1).command(6, false, false).look(7, -1).command(0).look(7, 0).force(true).look(7, 0);
        new Probe("15: the latest, though it ended at once").protect(true).command(3).look(7, 3).command(5).look(7, 5);
    }

    private static void the512Calls() {
        Probe p = new Probe("512 calls").command(1);
        for (int i = 0; i < 255; i++) {
            p.run(200, (i + 1) * 200 / 150 - i * 200 / 150).look(5, (i + 1) * 200 % 150 * 16);
        }
        p.look(5, 0);
    }
}
