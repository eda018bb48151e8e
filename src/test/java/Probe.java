import java.util.ArrayList;
import java.util.List;

/** A FloppyDesk whose every answer is compared with the one that is due. */
final class Probe {
    private static final int MOST_CALLS = 512;
    private static int wrong = 0;
    private static int asked = 0;

    private final String name;
    private final FloppyDesk desk = new FloppyDesk();
    private int calls = 0;

    Probe(String name) {
        this.name = name;
    }

    /** Prints the count, and ends the program with 1 if an answer was not the one that is due. */
    static void finish(String test) {
        System.out.println(test + ": " + asked + " answers, " + wrong + " not as due");
        if (wrong != 0) {
            System.exit(1);
        }
    }

    static void due(String what, long got, long want) {
        asked++;
        if (got != want) {
            wrong++;
            System.out.println(what + " answered " + got + ", due is " + want);
        }
    }

    private void countCall() {
        calls++;
        // What an object answers behind its 512th call is free, so no test may lean on it.
        if (calls == MOST_CALLS + 1) {
            wrong++;
            System.out.println(name + ": more than " + MOST_CALLS + " calls on one object");
        }
    }

    private Probe compare(String call, long got, long want) {
        countCall();
        due(name + ", call " + calls + ": " + call, got, want);
        return this;
    }

    private Probe compare(String call, boolean got, boolean want) {
        return compare(call, got ? 1 : 0, want ? 1 : 0);
    }

    Probe command(int c, boolean deleted, boolean want) {
        return compare("command(" + c + ", " + deleted + ")", desk.command(c, deleted), want);
    }

    Probe command(int c) {
        return command(c, false, true);
    }

    Probe force(boolean want) {
        return compare("force()", desk.force(), want);
    }

    Probe set(int register, int v, boolean want) {
        return compare("set(" + register + ", " + v + ")", desk.set(register, v), want);
    }

    Probe set(int register, int v) {
        return set(register, v, true);
    }

    Probe give(int v, boolean want) {
        return compare("give(" + v + ")", desk.give(v), want);
    }

    Probe give(int v) {
        return give(v, true);
    }

    Probe take(int want) {
        return compare("take()", desk.take(), want);
    }

    Probe run(int n, int want) {
        return compare("run(" + n + ")", desk.run(n), want);
    }

    Probe serve(int n, int want) {
        return compare("serve(" + n + ")", desk.serve(n), want);
    }

    Probe clear() {
        countCall();
        desk.clear();
        return this;
    }

    Probe fill(int v, int count, boolean want) {
        return compare("fill(" + v + ", " + count + ")", desk.fill(v, count), want);
    }

    Probe fill(int v, int count) {
        return fill(v, count, true);
    }

    Probe buffer(int k, int want) {
        return compare("buffer(" + k + ")", desk.buffer(k), want);
    }

    Probe protect(boolean is) {
        countCall();
        desk.protect(is);
        return this;
    }

    Probe spoil(int t, int k, boolean want) {
        return compare("spoil(" + t + ", " + k + ")", desk.spoil(t, k), want);
    }

    Probe cells(int t, int k, int want) {
        return compare("cells(" + t + ", " + k + ")", desk.cells(t, k), want);
    }

    Probe look(int which, int want) {
        return compare("look(" + which + ")", desk.look(which), want);
    }

    Probe status(int want) {
        return look(0, want);
    }

    /** Byte times until the place is the one at the beginning of that byte of the track. */
    Probe goTo(int byteOfTrack) {
        countCall();
        int here = desk.look(5) / 16;
        countCall();
        desk.run(Math.floorMod(byteOfTrack - here, 150));
        return look(5, byteOfTrack * 16);
    }

    /** Formats the track under the head, the head being at place 0 before and behind it. */
    Probe format(int... runs) {
        goTo(0).clear();
        for (int i = 0; i + 1 < runs.length; i += 2) {
            fill(runs[i], runs[i + 1]);
        }
        command(5);
        countCall();
        desk.serve(150);
        countCall();
        desk.serve(150);
        return clear().status(0).look(5, 0);
    }

    /** Turns over each cell that is 1 in the text, from cell k of track t on. */
    Probe paint(int t, int k, String ones) {
        for (int i = 0; i < ones.length(); i++) {
            if (ones.charAt(i) == '1') {
                spoil(t, (k + i) % 2400, true);
            }
        }
        return this;
    }

    /** Turns cells over until word k of track t, which is the one, is the other. */
    Probe repaint(int t, int k, int one, int other) {
        cells(t, k, one);
        for (int i = 0; i < 16; i++) {
            if (((one ^ other) >> 15 - i & 1) == 1) {
                spoil(t, 16 * k + i, true);
            }
        }
        return cells(t, k, other);
    }

    static final String MARK = "0100010010001001";

    /** The bytes as cells whose clocks are all missing: that is enough for a field. */
    static String clockless(int... bytes) {
        StringBuilder text = new StringBuilder();
        for (int b : bytes) {
            for (int i = 7; i >= 0; i--) {
                text.append('0').append((b >> i & 1) == 1 ? '1' : '0');
            }
        }
        return text.toString();
    }

    /** Three marks, the bytes, and their check with its lowest bit turned over if it is to be wrong. */
    static String field(boolean right, int... bytes) {
        int check = checkOf(bytes) ^ (right ? 0 : 1);
        return MARK + MARK + MARK + clockless(bytes) + clockless(check >> 8, check & 255);
    }

    static int checkOf(int... bytes) {
        List<Integer> all = new ArrayList<>(List.of(161, 161, 161));
        for (int b : bytes) {
            all.add(b);
        }
        return plainCheck(all);
    }

    static int plainCheck(List<Integer> bytes) {
        int c = 65535;
        for (int b : bytes) {
            c ^= b << 8;
            for (int i = 0; i < 8; i++) {
                c = (c & 32768) != 0 ? c << 1 ^ 69665 : c << 1;
            }
        }
        return c;
    }

    /** A byte as cells behind the bit before it. */
    static int encoded(int before, int b) {
        int word = 0;
        int last = before;
        for (int i = 7; i >= 0; i--) {
            int bit = b >> i & 1;
            word = word << 2 | (last == 0 && bit == 0 ? 2 : 0) | bit;
            last = bit;
        }
        return word;
    }
}
