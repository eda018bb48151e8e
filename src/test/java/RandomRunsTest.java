import java.util.Random;

/** Runs of calls drawn with fixed seeds, each answer compared with the plain model's. */
public final class RandomRunsTest {
    private static final int RUNS = 600;
    private static final int MOST_CALLS = 512;
    private static final int SHOWN = 10;
    private static int wrong = 0;
    private static int asked = 0;
    private static final int[] endings = new int[128];

    private final int seed;
    private final Random random;
    private final FloppyDesk desk = new FloppyDesk();
    private final PlainModel model = new PlainModel();
    private int calls = 0;

    private RandomRunsTest(int seed) {
        this.seed = seed;
        this.random = new Random(seed);
    }

    public static void main(String[] args) {
        for (int seed = 1; seed <= RUNS; seed++) {
            new RandomRunsTest(seed).play();
        }
        checkVariety();
        System.out.println("RandomRunsTest: " + asked + " answers, " + wrong + " not as due");
        if (wrong != 0) {
            System.exit(1);
        }
    }

    /** Runs that never came to one of the marks would compare nothing of it. */
    private static void checkVariety() {
        for (int mark = 1; mark <= 64; mark *= 2) {
            boolean seen = false;
            for (int status = 0; status < 128; status++) {
                seen = seen || (status & mark) != 0 && endings[status] > 0;
            }
            if (!seen) {
                wrong++;
                System.out.println("no run had the mark " + mark);
            }
        }
    }

    private boolean compare(String call, long got, long want) {
        calls++;
        asked++;
        if (got != want) {
            wrong++;
            if (wrong <= SHOWN) {
                System.out.println("seed " + seed + ", call " + calls + ": " + call + " answered " + got + ", due is " + want);
            }
        }
        return got == want;
    }

    private static int one(boolean b) {
        return b ? 1 : 0;
    }

    private void play() {
        boolean isSound = layTrack();
        while (isSound && calls < MOST_CALLS - 60) {
            isSound = random.nextInt(12) == 0 ? layTrack() : oneCall() && lookAround();
        }
    }

    /** Fills the buffer with sectors, mostly sound ones, and formats with it. */
    private boolean layTrack() {
        desk.clear();
        model.clear();
        calls++;
        boolean isSound = true;
        int left = 150;
        while (isSound && left > 60) {
            int size = random.nextInt(4) == 0 ? 32 : 16;
            // A count of 0 is refused, and then there is no gap.
            int gap = random.nextInt(random.nextInt(4) == 0 ? 34 : 13);
            isSound = fill(78, gap) && fill(0, 2) && fill(245, random.nextInt(8) == 0 ? 2 : 3) && fill(254, 1)
                && fill(random.nextInt(5) / 4, 2) && fill(1 + random.nextInt(3), 1) && fill(size / 16 - 1, 1)
                && fill(random.nextInt(8) == 0 ? 99 : 247, 1) && fill(78, random.nextInt(26)) && fill(0, random.nextInt(3))
                && fill(245, 3) && fill(random.nextInt(4) == 0 ? 248 : 251, 1) && fill(random.nextInt(256), size)
                && fill(247, 1) && fill(78, 2);
            left -= 60;
        }
        return isSound && force() && command(5) && serve(150) && serve(150) && serve(random.nextInt(150));
    }

    private boolean fill(int v, int count) {
        return compare("fill(" + v + ", " + count + ")", one(desk.fill(v, count)), one(model.fill(v, count)));
    }

    private boolean serve(int n) {
        return compare("serve(" + n + ")", desk.serve(n), model.serve(n));
    }

    private boolean force() {
        return compare("force()", one(desk.force()), one(model.force()));
    }

    private boolean command(int c) {
        boolean deleted = random.nextInt(3) == 0;
        return compare("command(" + c + ", " + deleted + ")", one(desk.command(c, deleted)), one(model.command(c, deleted)));
    }

    private boolean set(int register, int v) {
        return compare("set(" + register + ", " + v + ")", one(desk.set(register, v)), one(model.set(register, v)));
    }

    private boolean give(int v) {
        return compare("give(" + v + ")", one(desk.give(v)), one(model.give(v)));
    }

    private boolean oneCall() {
        int n = random.nextInt(6) == 0 ? random.nextInt(204) - 2 : random.nextInt(40);
        switch (random.nextInt(16)) {
            case 0, 1, 2:
                return command(random.nextInt(7) == 0 ? random.nextInt(8) - 1 : 2 + random.nextInt(3));
            case 3:
                return random.nextInt(4) == 0 ? command(random.nextInt(2)) : set(0, random.nextInt(5) / 4);
            case 4:
                return random.nextInt(3) != 0 || force();
            case 5:
                return set(random.nextInt(12) == 0 ? random.nextInt(4) - 1 : 1, random.nextInt(5));
            case 6:
                return give(random.nextInt(5) == 0 ? random.nextInt(260) - 2 : random.nextInt(4));
            case 7:
                return compare("take()", desk.take(), model.take());
            case 8, 9:
                return compare("run(" + n + ")", desk.run(n), model.run(n));
            case 10, 11, 12:
                return serve(random.nextInt(2) == 0 ? 150 : n);
            case 13:
                return random.nextInt(6) == 0 ? clear() : fill(random.nextInt(258) - 1, random.nextInt(30));
            case 14:
                return random.nextInt(3) != 0 || protect(random.nextInt(4) == 0);
            default:
                if (random.nextInt(6) == 0) {
                    return paintField();
                }
                return random.nextInt(3) != 0 || spoil(random.nextInt(16) == 0 ? random.nextInt(6) - 1 : 0);
        }
    }

    private boolean clear() {
        calls++;
        desk.clear();
        model.clear();
        return true;
    }

    private boolean protect(boolean is) {
        calls++;
        desk.protect(is);
        model.protect(is);
        return true;
    }

    private boolean spoil(int t) {
        return spoilAt(t, random.nextInt(2404) - 2);
    }

    private boolean spoilAt(int t, int k) {
        return compare("spoil(" + t + ", " + k + ")", one(desk.spoil(t, k)), one(model.spoil(t, k)));
    }

    /** Turns cells over as a field has them, from a little before the head on and mostly off the bytes' places. */
    private boolean paintField() {
        boolean isId = random.nextInt(3) != 0;
        boolean isRight = random.nextInt(4) != 0;
        int[] bytes = isId ? new int[] {254, 0, 0, 1 + random.nextInt(3), random.nextInt(2)} : new int[17];
        if (!isId) {
            bytes[0] = random.nextBoolean() ? 251 : 248;
            bytes[1 + random.nextInt(16)] = random.nextInt(256);
        }
        String cells = Probe.field(isRight, bytes);
        if (calls + cells.length() > MOST_CALLS - 60) {
            return true;
        }
        int t = model.look(4);
        int start = model.look(5) + random.nextInt(400) - 40;
        boolean isSound = true;
        for (int i = 0; isSound && i < cells.length(); i++) {
            int k = Math.floorMod(start + i, 2400);
            boolean isOne = (model.cells(t, k / 16) >> 15 - k % 16 & 1) == 1;
            if (isOne != (cells.charAt(i) == '1')) {
                isSound = spoilAt(t, k);
            }
        }
        return isSound;
    }

    private boolean lookAround() {
        endings[model.look(0)]++;
        int which = 1 + random.nextInt(7);
        int t = random.nextInt(8) == 0 ? random.nextInt(6) - 1 : model.look(4);
        int k = random.nextInt(152) - 1;
        int b = random.nextInt(random.nextInt(3) == 0 ? 210 : 40) - 2;
        return compare("look(0)", desk.look(0), model.look(0)) && compare("look(" + which + ")", desk.look(which), model.look(which))
            && compare("cells(" + t + ", " + k + ")", desk.cells(t, k), model.cells(t, k))
            && (random.nextInt(2) == 0 || compare("buffer(" + b + ")", desk.buffer(b), model.buffer(b)));
    }
}
