import java.util.ArrayList;
import java.util.LinkedHashMap;
import java.util.List;
import java.util.Map;
import java.util.function.Consumer;
import java.util.function.ToIntFunction;

/**
 * "A call that answers false or NONE changes nothing.": in each state a desk that was asked in vain answers all that
 * follows as its twin that was not asked. So it is with questions, and with no byte times at all.
 */
public final class RefusedCallsTest {
    private static final int MIN = Integer.MIN_VALUE;
    private static final int MAX = Integer.MAX_VALUE;

    private static final Map<String, Consumer<FloppyDesk>> STATES = new LinkedHashMap<>();
    private static final Map<String, ToIntFunction<FloppyDesk>> DEMANDS = new LinkedHashMap<>();
    private static final Map<String, ToIntFunction<FloppyDesk>> QUESTIONS = new LinkedHashMap<>();
    private static final List<Consumer<Follower>> SEQUELS = new ArrayList<>();

    public static void main(String[] args) {
        nameIdleStates();
        nameReadingStates();
        nameWritingStates();
        nameDemands();
        nameQuestions();
        nameSequels();
        for (String state : STATES.keySet()) {
            compareTwins(state);
        }
        Probe.finish("RefusedCallsTest");
    }

    /** A desk and all that it answered. */
    private static final class Follower {
        private final FloppyDesk desk = new FloppyDesk();
        private final StringBuilder answers = new StringBuilder();

        void say(int answer) {
            answers.append(answer).append(' ');
        }

        void say(boolean answer) {
            answers.append(answer).append(' ');
        }

        void lookAround() {
            for (int which = 0; which < 8; which++) {
                say(desk.look(which));
            }
            say(desk.buffer(-1));
        }

        void sayTrack(int t) {
            for (int k = 0; k < 150; k++) {
                say(desk.cells(t, k));
            }
        }
    }

    private static void compareTwins(String state) {
        int refused = 0;
        for (Consumer<Follower> sequel : SEQUELS) {
            String due = answersBehind(state, d -> 0, sequel);
            for (String call : DEMANDS.keySet()) {
                // What is refused when BUSY is not refused elsewhere, and the other way round.
                if (answerOf(state, DEMANDS.get(call)) <= 0) {
                    refused++;
                    same(state, call, answersBehind(state, DEMANDS.get(call), sequel), due);
                }
            }
            for (String call : QUESTIONS.keySet()) {
                same(state, call, answersBehind(state, QUESTIONS.get(call), sequel), due);
            }
        }
        Probe.due(state + ": many calls are refused", refused > 40 * SEQUELS.size() ? 1 : 0, 1);
    }

    private static void same(String state, String call, String got, String due) {
        Probe.due(state + ": answers that changed behind " + call, got.equals(due) ? 0 : 1, 0);
    }

    private static int answerOf(String state, ToIntFunction<FloppyDesk> call) {
        FloppyDesk desk = new FloppyDesk();
        STATES.get(state).accept(desk);
        return call.applyAsInt(desk);
    }

    private static String answersBehind(String state, ToIntFunction<FloppyDesk> call, Consumer<Follower> sequel) {
        Follower follower = new Follower();
        STATES.get(state).accept(follower.desk);
        call.applyAsInt(follower.desk);
        sequel.accept(follower);
        return follower.answers.toString();
    }

    private static int one(boolean b) {
        return b ? 1 : 0;
    }

    private static void nameDemands() {
        int[] wrong = {-1, 256, MIN, MAX};
        for (int c : new int[] {-1, 0, 1, 2, 3, 4, 5, 6, MIN, MAX}) {
            DEMANDS.put("command(" + c + ", false)", d -> one(d.command(c, false)));
            DEMANDS.put("command(" + c + ", true)", d -> one(d.command(c, true)));
        }
        DEMANDS.put("force()", d -> one(d.force()));
        for (int r : new int[] {-1, 0, 1, 2, MIN, MAX}) {
            DEMANDS.put("set(" + r + ", 7)", d -> one(d.set(r, 7)));
            for (int v : wrong) {
                DEMANDS.put("set(" + r + ", " + v + ")", d -> one(d.set(r, v)));
            }
        }
        for (int v : wrong) {
            DEMANDS.put("give(" + v + ")", d -> one(d.give(v)));
            DEMANDS.put("fill(" + v + ", 1)", d -> one(d.fill(v, 1)));
        }
        for (int count : new int[] {-1, 0, 1, 2, 100, 101, MIN, MAX}) {
            DEMANDS.put("fill(9, " + count + ")", d -> one(d.fill(9, count)));
        }
        for (int n : new int[] {-1, 201, MIN, MAX}) {
            DEMANDS.put("run(" + n + ")", d -> d.run(n));
            DEMANDS.put("serve(" + n + ")", d -> d.serve(n));
        }
        int[][] none = {{-1, 0}, {4, 0}, {0, -1}, {0, 2400}, {3, 2400}, {MIN, MIN}, {MAX, MAX}};
        for (int[] tk : none) {
            DEMANDS.put("spoil(" + tk[0] + ", " + tk[1] + ")", d -> one(d.spoil(tk[0], tk[1])));
        }
    }

    private static void nameQuestions() {
        QUESTIONS.put("run(0)", d -> d.run(0));
        QUESTIONS.put("serve(0)", d -> d.serve(0));
        for (int k : new int[] {-2, -1, 0, 199, 200, MIN, MAX}) {
            QUESTIONS.put("buffer(" + k + ")", d -> d.buffer(k));
        }
        int[][] words = {{-1, 0}, {4, 0}, {0, -1}, {0, 0}, {3, 149}, {0, 150}, {3, 150}, {MIN, MIN}, {MAX, MAX}};
        for (int[] tk : words) {
            QUESTIONS.put("cells(" + tk[0] + ", " + tk[1] + ")", d -> d.cells(tk[0], tk[1]));
        }
        for (int which : new int[] {-1, 0, 1, 2, 3, 4, 5, 6, 7, 8, MIN, MAX}) {
            QUESTIONS.put("look(" + which + ")", d -> d.look(which));
        }
    }

    private static void nameSequels() {
        SEQUELS.add(f -> {
            f.lookAround();
            for (int k = 0; k < 200; k++) {
                f.say(f.desk.buffer(k));
            }
            f.sayTrack(0);
        });
        SEQUELS.add(f -> {
            f.sayTrack(1);
            f.sayTrack(2);
            f.sayTrack(3);
        });
        SEQUELS.add(f -> {
            for (int i = 0; i < 24; i++) {
                f.say(f.desk.run(1));
                f.lookAround();
            }
            f.sayTrack(0);
        });
        SEQUELS.add(f -> {
            for (int i = 0; i < 4; i++) {
                f.say(f.desk.serve(15));
                f.lookAround();
                f.say(f.desk.serve(190));
                f.lookAround();
            }
            f.sayTrack(0);
        });
        // The command ends; whether the disk is protected, and which byte of the BUFFER is next.
        SEQUELS.add(f -> {
            f.say(f.desk.force());
            f.say(f.desk.command(5, false));
            f.lookAround();
            f.say(f.desk.serve(1));
            f.lookAround();
            f.say(f.desk.force());
            f.say(f.desk.command(2, false));
            f.say(f.desk.serve(200));
            f.lookAround();
        });
    }

    /** A sector 1, whose ID field is over with byte 17 of the track, and whose data field begins with byte 36. */
    private static void layTrack(FloppyDesk d, int length) {
        int[] runs = {78, 4, 0, 4, 245, 3, 254, 1, 0, 2, 1, 1, length, 1, 247, 1, 78, 11, 0, 4, 245, 3, 248, 1, 65, 16 << length, 247, 1, 78, 60};
        for (int i = 0; i < runs.length; i += 2) {
            d.fill(runs[i], runs[i + 1]);
        }
        d.command(5, false);
        d.serve(150);
        d.serve(150);
        d.clear();
        d.fill(33, 20);
        d.fill(44, 20);
        d.set(1, 1);
    }

    /** The command is taken at place 0 of such a track, and that many byte times are served. */
    private static void begin(FloppyDesk d, int length, int c, boolean deleted, int served) {
        layTrack(d, length);
        d.command(c, deleted);
        d.serve(served);
    }

    /** The status tells that the calls really led to the state of that name. */
    private static void state(String name, int status, Consumer<FloppyDesk> calls) {
        STATES.put(name, calls);
        Probe.due(name + ": STATUS", answerOf(name, d -> d.look(0)), status);
    }

    private static void nameIdleStates() {
        state("new", 0, d -> { });
        state("two marks are read", 0, d -> {
            layTrack(d, 0);
            d.run(10);
        });
        state("half a mark is read", 0, d -> {
            for (int cell : new int[] {1, 5, 8, 12, 15}) {
                d.spoil(0, 8 + cell);
            }
            d.run(1);
        });
        state("within a long field", 0, d -> {
            begin(d, 1, 4, false, 18);
            d.run(30);
        });
        state("PROTECTED", 64, d -> {
            layTrack(d, 0);
            d.protect(true);
            d.command(3, true);
        });
        state("protected and BUSY", 1, d -> {
            begin(d, 0, 2, false, 12);
            d.protect(true);
        });
        state("LOST", 4, d -> {
            d.command(5, false);
            d.run(160);
        });
        state("a BUFFER of 199", 0, d -> {
            d.fill(1, 100);
            d.fill(2, 99);
        });
        state("a full BUFFER, half of it given", 1, d -> {
            d.fill(1, 100);
            d.fill(2, 50);
            d.fill(3, 50);
            d.command(5, false);
            d.serve(150);
            d.serve(100);
        });
        state("SEEK before its sixth byte time", 1, d -> {
            d.give(3);
            d.command(1, false);
            d.run(5);
        });
        state("RESTORE before its third byte time", 1, d -> {
            d.give(3);
            d.command(1, false);
            d.run(12);
            d.command(0, false);
            d.run(2);
        });
    }

    private static void nameReadingStates() {
        state("READ hunts before the fifth INDEX", 1, d -> {
            layTrack(d, 0);
            d.set(1, 2);
            d.command(2, false);
            for (int i = 0; i < 4; i++) {
                d.run(150);
            }
            d.run(149);
        });
        state("READ hunts, CRC", 9, d -> {
            layTrack(d, 0);
            d.spoil(0, 16 * 14 + 15);
            d.command(2, false);
            d.run(20);
        });
        state("READ awaits before its 31st byte time", 1, d -> {
            layTrack(d, 0);
            d.spoil(0, 16 * 33 + 1);
            d.command(2, false);
            d.run(47);
        });
        state("READ reads, DRQ", 35, d -> {
            begin(d, 1, 2, false, 40);
            d.run(1);
        });
        state("READ reads, LOST", 39, d -> {
            begin(d, 0, 2, false, 40);
            d.run(4);
        });
        state("READ reads the check", 33, d -> begin(d, 0, 2, false, 54));
        state("READ is over", 32, d -> begin(d, 0, 2, false, 55));
        state("ADDRESS reads, DRQ", 3, d -> {
            begin(d, 0, 4, false, 13);
            d.run(1);
        });
    }

    private static void nameWritingStates() {
        state("WRITE waits before its 11th byte time, DRQ", 3, d -> {
            begin(d, 0, 3, false, 0);
            d.run(27);
        });
        state("WRITE waits before its 11th byte time, given", 1, d -> begin(d, 0, 3, true, 27));
        state("WRITE writes marks", 1, d -> begin(d, 1, 3, true, 34));
        state("WRITE writes data, DRQ", 3, d -> {
            begin(d, 1, 3, false, 40);
            d.run(1);
        });
        state("WRITE writes the check", 1, d -> begin(d, 0, 3, false, 53));
        state("FORMAT before the INDEX, DRQ", 3, d -> {
            layTrack(d, 0);
            d.run(149);
            d.command(5, false);
        });
        state("FORMAT between two marks", 1, d -> {
            layTrack(d, 0);
            d.clear();
            d.fill(245, 3);
            d.fill(247, 2);
            d.command(5, false);
            d.serve(151);
        });
        state("FORMAT within a check, DRQ", 3, d -> {
            d.fill(245, 3);
            d.fill(247, 2);
            d.command(5, false);
            d.serve(153);
            d.run(1);
        });
    }
}
