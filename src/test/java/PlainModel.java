import java.util.ArrayList;
import java.util.List;

/**
 * The document's words once more, told slowly: every check is computed anew from the bytes that it is
 * about, and every cell stands in an array of its own. The random runs compare the class with it.
 */
final class PlainModel {
    private final boolean[][] disk = new boolean[4][2400];
    private boolean isProtected = false;
    private int head = 0;
    private int place = 0;

    private String window = "0000000000000000";
    private boolean step = false;
    private int marks = 0;
    private int sinceByte = 0;
    private List<Integer> field = null;
    private int dataSize = 16;

    private boolean busy;
    private boolean drq;
    private boolean lost;
    private boolean crc;
    private boolean missing;
    private boolean deletedMark;
    private boolean protectedMark;
    private int track = 0;
    private int sector = 0;
    private int data = 0;
    private int latest = -1;
    private boolean deleted = false;
    private String doing = "nothing";
    private int times = 0;
    private int indexes = 0;

    /** What was written since writing began: a byte, or MARK, or CHECK for each byte of a check. */
    private static final int MARK = 1000;
    private static final int CHECK = 1001;
    private final List<Integer> written = new ArrayList<>();
    private String toWrite = "";
    private int lastBit = 0;
    private int lowCheck = -1;

    private final List<Integer> buffer = new ArrayList<>();
    private int next = 0;

    boolean command(int c, boolean isDeleted) {
        if (c < 0 || c > 5 || busy) {
            return false;
        }
        latest = c;
        deleted = isDeleted;
        busy = true;
        drq = lost = crc = missing = deletedMark = protectedMark = false;
        resetReader();
        dataSize = 16;
        times = 0;
        indexes = 0;
        doing = switch (c) {
            case 0, 1 -> "stepping";
            case 5 -> "before index";
            default -> "hunting";
        };
        if (c == 0) {
            track = 255;
            data = 0;
        }
        if ((c == 3 || c == 5) && isProtected) {
            protectedMark = true;
            end();
        } else if (c == 5) {
            drq = true;
        }
        return true;
    }

    boolean force() {
        if (!busy) {
            return false;
        }
        end();
        return true;
    }

    boolean set(int register, int v) {
        if (busy || register < 0 || register > 1 || v < 0 || v > 255) {
            return false;
        }
        if (register == 0) {
            track = v;
        } else {
            sector = v;
        }
        return true;
    }

    boolean give(int v) {
        if (v < 0 || v > 255) {
            return false;
        }
        data = v;
        drq = false;
        return true;
    }

    int take() {
        drq = false;
        return data;
    }

    int run(int n) {
        if (n < 0 || n > 200) {
            return -1;
        }
        int count = 0;
        for (int i = 0; i < n; i++) {
            count += byteTime();
        }
        return count;
    }

    int serve(int n) {
        if (n < 0 || n > 200) {
            return -1;
        }
        int count = 0;
        for (int i = 0; i < n; i++) {
            byteTime();
            if (drq && (latest == 2 || latest == 4)) {
                int v = take();
                if (buffer.size() < 200) {
                    buffer.add(v);
                }
                count++;
            } else if (drq && (latest == 3 || latest == 5)) {
                give(next < buffer.size() ? buffer.get(next++) : 0);
                count++;
            }
        }
        return count;
    }

    void clear() {
        buffer.clear();
        next = 0;
    }

    boolean fill(int v, int count) {
        if (v < 0 || v > 255 || count < 1 || count > 100 || buffer.size() + count > 200) {
            return false;
        }
        for (int i = 0; i < count; i++) {
            buffer.add(v);
        }
        return true;
    }

    int buffer(int k) {
        return k == -1 ? buffer.size() : k >= 0 && k < buffer.size() ? buffer.get(k) : -1;
    }

    void protect(boolean is) {
        isProtected = is;
    }

    boolean spoil(int t, int k) {
        if (t < 0 || t > 3 || k < 0 || k > 2399) {
            return false;
        }
        disk[t][k] = !disk[t][k];
        return true;
    }

    int cells(int t, int k) {
        if (t < 0 || t > 3 || k < 0 || k > 149) {
            return -1;
        }
        int v = 0;
        for (int i = 0; i < 16; i++) {
            v = 2 * v + (disk[t][16 * k + i] ? 1 : 0);
        }
        return v;
    }

    int look(int which) {
        return switch (which) {
            case 0 -> (busy ? 1 : 0) + (drq ? 2 : 0) + (lost ? 4 : 0) + (crc ? 8 : 0) + (missing ? 16 : 0)
                + (deletedMark ? 32 : 0) + (protectedMark ? 64 : 0);
            case 1 -> track;
            case 2 -> sector;
            case 3 -> data;
            case 4 -> head;
            case 5 -> place;
            case 6 -> step ? 1 : 0;
            case 7 -> latest;
            default -> -1;
        };
    }

    private void end() {
        busy = false;
        drq = false;
        if (doing.equals("writing")) {
            window = "0000000000000000";
        }
        doing = "nothing";
    }

    private void resetReader() {
        step = false;
        marks = 0;
        field = null;
    }

    private int byteTime() {
        int count = 0;
        for (int i = 0; i < 16; i++) {
            if (doing.equals("writing")) {
                writeCell();
            } else {
                readCell();
            }
            place++;
            if (place == 2400) {
                place = 0;
                count++;
                index();
            }
        }
        endOfByteTime();
        return count;
    }

    private void index() {
        indexes++;
        if (doing.equals("before index")) {
            writeOrLose();
        } else if (doing.equals("writing") && latest == 5) {
            end();
        } else if (indexes == 5 && (doing.equals("hunting") || doing.equals("awaiting"))) {
            missing = true;
            end();
        }
    }

    private void writeOrLose() {
        if (drq) {
            lost = true;
            end();
            return;
        }
        doing = "writing";
        resetReader();
        written.clear();
        toWrite = "";
        lastBit = 0;
        lowCheck = -1;
    }

    private void endOfByteTime() {
        times++;
        if (doing.equals("stepping") && times % 3 == 0) {
            if (latest == 0 && head == 0) {
                track = 0;
                end();
            } else if (track == data) {
                end();
            } else {
                int way = Integer.signum(data - track);
                track += way;
                head = Math.max(0, Math.min(3, head + way));
            }
        } else if (doing.equals("awaiting") && times == 31) {
            doing = "hunting";
        } else if (doing.equals("waiting") && times == 11) {
            writeOrLose();
        }
    }

    private void readCell() {
        window = window.substring(1) + (disk[head][place] ? "1" : "0");
        sinceByte++;
        if (window.equals("0100010010001001") && (!step || field == null)) {
            step = true;
            marks++;
            sinceByte = 0;
        } else if (step && sinceByte == 16) {
            sinceByte = 0;
            StringBuilder bits = new StringBuilder();
            for (int i = 1; i < 16; i += 2) {
                bits.append(window.charAt(i));
            }
            byteCame(Integer.parseInt(bits.toString(), 2));
        }
    }

    /** A field is a list whose first byte is the one with which it began. */
    private void byteCame(int b) {
        if (field != null) {
            field.add(b);
            fieldGrew();
            return;
        }
        if (marks >= 3 && (b == 254 || b == 251 || b == 248)) {
            field = new ArrayList<>(List.of(b));
            if (b == 254 && latest == 4 && doing.equals("hunting")) {
                doing = "reading";
            } else if (b != 254 && doing.equals("awaiting")) {
                doing = "reading";
                deletedMark = b == 248;
            }
        } else {
            step = false;
        }
        marks = 0;
    }

    private void fieldGrew() {
        boolean isId = field.get(0) == 254;
        int wanted = isId ? 6 : dataSize + 2;
        int came = field.size() - 1;
        if (doing.equals("reading") && (isId || came <= dataSize)) {
            data = field.get(came);
            lost = lost || drq;
            drq = true;
        }
        if (came < wanted) {
            return;
        }
        List<Integer> whole = field;
        field = null;
        step = false;
        fieldOver(isId, whole);
    }

    private void fieldOver(boolean isId, List<Integer> f) {
        List<Integer> checked = new ArrayList<>(List.of(161, 161, 161));
        checked.addAll(f.subList(0, f.size() - 2));
        boolean right = Probe.plainCheck(checked) == f.get(f.size() - 2) * 256 + f.get(f.size() - 1);
        if (isId && right) {
            dataSize = f.get(4) % 2 == 1 ? 32 : 16;
        }
        if (doing.equals("reading")) {
            sector = latest == 4 ? f.get(1) : sector;
            crc = crc || !right;
            end();
        } else if (isId && (doing.equals("hunting") || doing.equals("awaiting"))) {
            crc = !right;
            if (right && f.get(1) == track && f.get(3) == sector) {
                doing = latest == 3 ? "waiting" : "awaiting";
                drq = drq || latest == 3;
                times = 0;
            }
        }
    }

    private void writeCell() {
        if (toWrite.isEmpty()) {
            if (latest == 5) {
                nextOfFormat();
            } else {
                nextOfWrite();
            }
        }
        disk[head][place] = toWrite.charAt(0) == '1';
        toWrite = toWrite.substring(1);
        if (latest == 3 && toWrite.isEmpty() && written.size() == 4 + 3 + 1 + dataSize + 2 + 1) {
            end();
        }
    }

    private int ask() {
        lost = lost || drq;
        return drq ? 0 : data;
    }

    private void nextOfFormat() {
        if (lowCheck >= 0) {
            put(lowCheck, CHECK);
            lowCheck = -1;
            return;
        }
        int b = ask();
        drq = true;
        if (b == 247) {
            int c = checkOfWritten();
            put(c / 256, CHECK);
            lowCheck = c % 256;
        } else if (b == 245) {
            put(161, MARK);
        } else {
            put(b, b);
        }
    }

    private void nextOfWrite() {
        int n = written.size();
        if (n < 4) {
            put(0, 0);
        } else if (n < 7) {
            put(161, MARK);
        } else if (n == 7) {
            int b = deleted ? 248 : 251;
            put(b, b);
        } else if (n < 8 + dataSize) {
            int b = ask();
            drq = drq || n < 8 + dataSize - 1;
            put(b, b);
        } else if (n < 10 + dataSize) {
            int c = checkOfWritten();
            put(n == 8 + dataSize ? c / 256 : c % 256, CHECK);
        } else {
            put(78, 78);
        }
    }

    private int checkOfWritten() {
        int from = 0;
        for (int i = 0; i < written.size(); i++) {
            if (written.get(i) == MARK && (i == 0 || written.get(i - 1) != MARK)) {
                from = i;
            }
        }
        List<Integer> checked = new ArrayList<>();
        for (int w : written.subList(from, written.size())) {
            if (w != CHECK) {
                checked.add(w == MARK ? 161 : w);
            }
        }
        return Probe.plainCheck(checked);
    }

    private void put(int b, int kind) {
        int word = kind == MARK ? 17545 : Probe.encoded(lastBit, b);
        toWrite = String.format("%16s", Integer.toBinaryString(word)).replace(' ', '0');
        lastBit = b & 1;
        written.add(kind);
    }
}
