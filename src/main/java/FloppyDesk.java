/** A disk drive with four tracks of cells, and the controller that reads, writes and formats them. */
public final class FloppyDesk {
    public static final int NONE = -1;

    private static final int TRACKS = 4;
    private static final int CELLS_OF_TRACK = 2400;
    private static final int CELLS_OF_BYTE = 16;
    private static final int WORDS_OF_TRACK = 150;
    private static final int HIGHEST_BYTE = 255;
    private static final int LONGEST_RUN = 200;

    private static final int MARK_CELLS = 17545;
    private static final int MARK_BYTE = 161;
    private static final int ID_BYTE = 254;
    private static final int DATA_BYTE = 251;
    private static final int DELETED_BYTE = 248;
    private static final int GAP_BYTE = 78;
    private static final int FORMAT_MARK = 245;
    private static final int FORMAT_CHECK = 247;

    private static final int CHECK_START = 65535;
    private static final int CHECK_POLYNOMIAL = 4129;

    private static final int BUSY = 1;
    private static final int DRQ = 2;
    private static final int LOST = 4;
    private static final int CRC = 8;
    private static final int MISSING = 16;
    private static final int DELETED = 32;
    private static final int PROTECTED = 64;

    private static final int RESTORE = 0;
    private static final int SEEK = 1;
    private static final int READ = 2;
    private static final int WRITE = 3;
    private static final int ADDRESS = 4;
    private static final int FORMAT = 5;

    private final Disk disk;
    private final Reader reader;
    private final Controller controller;
    private final Store store;

    public FloppyDesk() {
        disk = new Disk();
        reader = new Reader();
        controller = new Controller(disk, reader);
        store = new Store();
    }

    public boolean command(int c, boolean deleted) {
        return controller.begin(c, deleted);
    }

    public boolean force() {
        if (!controller.has(BUSY)) {
            return false;
        }
        controller.end();
        return true;
    }

    public boolean set(int register, int v) {
        if (!isByte(v) || controller.has(BUSY)) {
            return false;
        }
        if (register == 0) {
            controller.track = v;
            return true;
        }
        if (register == 1) {
            controller.sector = v;
            return true;
        }
        return false;
    }

    public boolean give(int v) {
        if (!isByte(v)) {
            return false;
        }
        controller.acceptData(v);
        return true;
    }

    public int take() {
        return controller.handOutData();
    }

    public int run(int n) {
        if (n < 0 || n > LONGEST_RUN) {
            return NONE;
        }
        int indexes = 0;
        for (int i = 0; i < n; i++) {
            if (controller.passByteTime()) {
                indexes++;
            }
        }
        return indexes;
    }

    public int serve(int n) {
        if (n < 0 || n > LONGEST_RUN) {
            return NONE;
        }
        int served = 0;
        for (int i = 0; i < n; i++) {
            controller.passByteTime();
            if (controller.has(DRQ)) {
                serveOneByte();
                served++;
            }
        }
        return served;
    }

    private void serveOneByte() {
        if (controller.latest == READ || controller.latest == ADDRESS) {
            store.append(controller.handOutData());
        } else {
            controller.acceptData(store.nextByte());
        }
    }

    public void clear() {
        store.makeEmpty();
    }

    public boolean fill(int v, int count) {
        if (!isByte(v) || count < 1 || count > Store.MOST_AT_ONCE || !store.hasRoomFor(count)) {
            return false;
        }
        for (int i = 0; i < count; i++) {
            store.append(v);
        }
        return true;
    }

    public int buffer(int k) {
        return k == -1 ? store.size : store.byteAt(k);
    }

    public void protect(boolean is) {
        disk.isProtected = is;
    }

    public boolean spoil(int t, int k) {
        return disk.turnOver(t, k);
    }

    public int cells(int t, int k) {
        return disk.wordAt(t, k);
    }

    public int look(int which) {
        switch (which) {
            case 0:
                return controller.status;
            case 1:
                return controller.track;
            case 2:
                return controller.sector;
            case 3:
                return controller.data;
            case 4:
                return disk.headTrack;
            case 5:
                return disk.place;
            case 6:
                return reader.inStep ? 1 : 0;
            case 7:
                return controller.latest;
            default:
                return NONE;
        }
    }

    private static boolean isByte(int v) {
        return v >= 0 && v <= HIGHEST_BYTE;
    }

    private static int checkWith(int check, int value) {
        int c = check ^ (value << 8);
        for (int i = 0; i < 8; i++) {
            c = c << 1;
            if ((c & 65536) != 0) {
                c = c ^ CHECK_POLYNOMIAL;
            }
            c = c & 65535;
        }
        return c;
    }

    /** The cells of all tracks and the head; 16 cells share a word, to keep an object small. */
    private static final class Disk {
        private final int[] words;
        private boolean isProtected;
        private int headTrack;
        private int place;

        Disk() {
            words = new int[TRACKS * WORDS_OF_TRACK];
        }

        int wordAt(int t, int k) {
            if (t < 0 || t >= TRACKS || k < 0 || k >= WORDS_OF_TRACK) {
                return NONE;
            }
            return words[t * WORDS_OF_TRACK + k];
        }

        boolean turnOver(int t, int k) {
            if (t < 0 || t >= TRACKS || k < 0 || k >= CELLS_OF_TRACK) {
                return false;
            }
            words[t * WORDS_OF_TRACK + (k >> 4)] ^= 32768 >> (k & 15);
            return true;
        }

        int cellUnderHead() {
            return (wordAt(headTrack, place >> 4) >> (15 - (place & 15))) & 1;
        }

        void writeUnderHead(int cell) {
            if (cellUnderHead() != cell) {
                turnOver(headTrack, place);
            }
        }

        /** Answers whether the head came past the INDEX. */
        boolean turnByOneCell() {
            place++;
            if (place < CELLS_OF_TRACK) {
                return false;
            }
            place = 0;
            return true;
        }

        void moveHead(int way) {
            int t = headTrack + way;
            if (t >= 0 && t < TRACKS) {
                headTrack = t;
            }
        }
    }

    /** Finds marks, bytes and fields in the cells that are read, whatever the controller does with them. */
    private static final class Reader {
        private static final int NOTHING = 0;
        private static final int FIELD_BEGAN = 1;
        private static final int FIELD_BYTE = 2;
        private static final int FIELD_OVER = 3;

        private static final int NO_FIELD = 0;
        private static final int ID_FIELD = 1;
        private static final int DATA_FIELD = 2;

        private static final int ID_SIZE = 4;
        private static final int SHORT_DATA = 16;

        private int window;
        private boolean inStep;
        private int marks;
        private int cellsSince;
        private int field;
        private int fieldStart;
        private int fieldBytes;
        private int fieldCheck;
        private int latestField;
        private int latestByte;
        private int idTrack;
        private int idSector;
        private int idLength;
        private int dataSize;

        Reader() {
            dataSize = SHORT_DATA;
        }

        void reset() {
            inStep = false;
            marks = 0;
            field = NO_FIELD;
        }

        void forgetDataSize() {
            dataSize = SHORT_DATA;
        }

        void forgetWindow() {
            window = 0;
        }

        /** Answers what the cell brought: NOTHING, FIELD_BEGAN, FIELD_BYTE or FIELD_OVER. */
        int readCell(int cell) {
            window = ((window << 1) | cell) & 65535;
            if (window == MARK_CELLS && (!inStep || field == NO_FIELD)) {
                inStep = true;
                marks++;
                cellsSince = 0;
                return NOTHING;
            }
            if (!inStep) {
                return NOTHING;
            }
            cellsSince++;
            if (cellsSince < CELLS_OF_BYTE) {
                return NOTHING;
            }
            cellsSince = 0;
            latestByte = byteInWindow();
            return field == NO_FIELD ? beginField() : addToField();
        }

        private int byteInWindow() {
            int value = 0;
            for (int i = 14; i >= 0; i -= 2) {
                value = (value << 1) | ((window >> i) & 1);
            }
            return value;
        }

        private int beginField() {
            boolean enoughMarks = marks >= 3;
            marks = 0;
            if (enoughMarks && latestByte == ID_BYTE) {
                field = ID_FIELD;
            } else if (enoughMarks && (latestByte == DATA_BYTE || latestByte == DELETED_BYTE)) {
                field = DATA_FIELD;
            } else {
                inStep = false;
                return NOTHING;
            }
            latestField = field;
            fieldStart = latestByte;
            fieldBytes = 0;
            fieldCheck = CHECK_START;
            for (int i = 0; i < 3; i++) {
                fieldCheck = checkWith(fieldCheck, MARK_BYTE);
            }
            fieldCheck = checkWith(fieldCheck, fieldStart);
            return FIELD_BEGAN;
        }

        private int addToField() {
            fieldCheck = checkWith(fieldCheck, latestByte);
            if (field == ID_FIELD) {
                keepIdByte();
            }
            fieldBytes++;
            int size = field == ID_FIELD ? ID_SIZE : dataSize;
            if (fieldBytes < size + 2) {
                return FIELD_BYTE;
            }
            if (field == ID_FIELD && isCheckRight()) {
                dataSize = SHORT_DATA << (idLength & 1);
            }
            field = NO_FIELD;
            inStep = false;
            return FIELD_OVER;
        }

        private void keepIdByte() {
            if (fieldBytes == 0) {
                idTrack = latestByte;
            } else if (fieldBytes == 2) {
                idSector = latestByte;
            } else if (fieldBytes == 3) {
                idLength = latestByte;
            }
        }

        /** A check that is taken over its own two bytes too comes to 0 just when they are right. */
        boolean isCheckRight() {
            return fieldCheck == 0;
        }

        boolean isLatestFieldId() {
            return latestField == ID_FIELD;
        }

        boolean isLatestByteOfCheck() {
            return !isLatestFieldId() && fieldBytes > dataSize;
        }
    }

    /** Turns bytes and marks into cells, and keeps the check of what it wrote. */
    private static final class Writer {
        private int word;
        private int cellsLeft;
        private int lastBit;
        private int check;
        private int count;
        private boolean isBehindMark;
        private boolean isLowCheckDue;

        void start() {
            cellsLeft = 0;
            lastBit = 0;
            check = CHECK_START;
            count = 0;
            isBehindMark = false;
            isLowCheckDue = false;
        }

        void putMark() {
            if (!isBehindMark) {
                check = CHECK_START;
            }
            check = checkWith(check, MARK_BYTE);
            isBehindMark = true;
            lastBit = MARK_BYTE & 1;
            putWord(MARK_CELLS);
        }

        void putByte(int value) {
            check = checkWith(check, value);
            putUnchecked(value);
        }

        /** The higher byte of the check; called again, the lower one. */
        void putHalfOfCheck() {
            int half = isLowCheckDue ? check & 255 : check >> 8;
            isLowCheckDue = !isLowCheckDue;
            putUnchecked(half);
        }

        int nextCell() {
            cellsLeft--;
            return (word >> (cellsLeft & 15)) & 1;
        }

        private void putUnchecked(int value) {
            int made = 0;
            for (int i = 7; i >= 0; i--) {
                int bit = (value >> i) & 1;
                int clock = (lastBit | bit) ^ 1;
                made = (made << 2) | (clock << 1) | bit;
                lastBit = bit;
            }
            isBehindMark = false;
            putWord(made);
        }

        private void putWord(int sixteenCells) {
            word = sixteenCells;
            cellsLeft = CELLS_OF_BYTE;
            count++;
        }
    }

    /** The registers and marks, and the command that goes on. */
    private static final class Controller {
        private static final int IDLE = 0;
        private static final int STEPPING = 1;
        private static final int HUNTING = 2;
        private static final int AWAITING = 3;
        private static final int READING = 4;
        private static final int WAITING = 5;
        private static final int WRITING = 6;
        private static final int BEFORE_INDEX = 7;

        private static final int STEP_TIME = 3;
        private static final int AWAIT_TIME = 31;
        private static final int WAIT_TIME = 11;
        private static final int LAST_INDEX = 5;

        private static final int ZEROS_END = 4;
        private static final int MARKS_END = 7;
        private static final int DATA_START = 8;

        private final Disk disk;
        private final Reader reader;
        private final Writer writer;
        private int status;
        private int track;
        private int sector;
        private int data;
        private int latest;
        private boolean writesDeleted;
        private int phase;
        private int byteTimes;
        private int indexes;

        Controller(Disk itsDisk, Reader itsReader) {
            disk = itsDisk;
            reader = itsReader;
            writer = new Writer();
            latest = NONE;
        }

        boolean has(int mark) {
            return (status & mark) != 0;
        }

        void acceptData(int v) {
            data = v;
            status &= ~DRQ;
        }

        int handOutData() {
            status &= ~DRQ;
            return data;
        }

        boolean begin(int c, boolean deleted) {
            if (c < RESTORE || c > FORMAT || has(BUSY)) {
                return false;
            }
            latest = c;
            writesDeleted = deleted;
            status = BUSY;
            byteTimes = 0;
            indexes = 0;
            reader.reset();
            reader.forgetDataSize();
            if (c == RESTORE) {
                track = HIGHEST_BYTE;
                data = 0;
            }
            if ((c == WRITE || c == FORMAT) && disk.isProtected) {
                endWith(PROTECTED);
            } else if (c == FORMAT) {
                status |= DRQ;
                phase = BEFORE_INDEX;
            } else {
                phase = c == RESTORE || c == SEEK ? STEPPING : HUNTING;
            }
            return true;
        }

        void end() {
            status &= ~(BUSY | DRQ);
            if (phase == WRITING) {
                reader.forgetWindow();
            }
            phase = IDLE;
        }

        private void endWith(int mark) {
            status |= mark;
            end();
        }

        /** Answers whether there was an INDEX: a track is longer than a byte time, so there is one at most. */
        boolean passByteTime() {
            boolean wasIndex = false;
            for (int i = 0; i < CELLS_OF_BYTE; i++) {
                if (phase == WRITING) {
                    writeOneCell();
                } else {
                    readOneCell();
                }
                if (disk.turnByOneCell()) {
                    wasIndex = true;
                    meetIndex();
                }
            }
            endByteTime();
            return wasIndex;
        }

        private void meetIndex() {
            indexes++;
            if (phase == BEFORE_INDEX) {
                startWritingIfServed();
            } else if (phase == WRITING && latest == FORMAT) {
                end();
            } else if ((phase == HUNTING || phase == AWAITING) && indexes == LAST_INDEX) {
                endWith(MISSING);
            }
        }

        private void endByteTime() {
            byteTimes++;
            if (phase == STEPPING && byteTimes == STEP_TIME) {
                byteTimes = 0;
                moveOneTrack();
            } else if (phase == AWAITING && byteTimes == AWAIT_TIME) {
                phase = HUNTING;
            } else if (phase == WAITING && byteTimes == WAIT_TIME) {
                startWritingIfServed();
            }
        }

        private void moveOneTrack() {
            if (latest == RESTORE && disk.headTrack == 0) {
                track = 0;
                end();
            } else if (track == data) {
                end();
            } else {
                int way = track < data ? 1 : -1;
                track += way;
                disk.moveHead(way);
            }
        }

        private void startWritingIfServed() {
            if (has(DRQ)) {
                endWith(LOST);
                return;
            }
            phase = WRITING;
            reader.reset();
            writer.start();
        }

        private void readOneCell() {
            int brought = reader.readCell(disk.cellUnderHead());
            if (brought == Reader.FIELD_BEGAN) {
                meetFieldStart();
            } else if (brought == Reader.FIELD_BYTE) {
                meetFieldByte();
            } else if (brought == Reader.FIELD_OVER) {
                meetFieldByte();
                meetFieldEnd();
            }
        }

        private void meetFieldStart() {
            if (latest == ADDRESS && phase == HUNTING && reader.isLatestFieldId()) {
                phase = READING;
            } else if (phase == AWAITING && !reader.isLatestFieldId()) {
                phase = READING;
                if (reader.fieldStart == DELETED_BYTE) {
                    status |= DELETED;
                }
            }
        }

        private void meetFieldByte() {
            if (phase != READING || reader.isLatestByteOfCheck()) {
                return;
            }
            data = reader.latestByte;
            if (has(DRQ)) {
                status |= LOST;
            }
            status |= DRQ;
        }

        private void meetFieldEnd() {
            if (phase == READING) {
                endReading();
            } else if (reader.isLatestFieldId() && (phase == HUNTING || phase == AWAITING)) {
                compareId();
            }
        }

        private void endReading() {
            if (latest == ADDRESS) {
                sector = reader.idTrack;
            }
            if (!reader.isCheckRight()) {
                status |= CRC;
            }
            end();
        }

        private void compareId() {
            if (!reader.isCheckRight()) {
                status |= CRC;
                return;
            }
            status &= ~CRC;
            if (reader.idTrack != track || reader.idSector != sector) {
                return;
            }
            byteTimes = 0;
            if (latest == WRITE) {
                phase = WAITING;
                status |= DRQ;
            } else {
                phase = AWAITING;
            }
        }

        private void writeOneCell() {
            if (writer.cellsLeft == 0) {
                if (latest == FORMAT) {
                    putNextOfTrack();
                } else {
                    putNextOfSector();
                }
            }
            disk.writeUnderHead(writer.nextCell());
            boolean isSectorWhole = writer.count == DATA_START + reader.dataSize + 3;
            if (latest == WRITE && writer.cellsLeft == 0 && isSectorWhole) {
                end();
            }
        }

        private void putNextOfTrack() {
            if (writer.isLowCheckDue) {
                writer.putHalfOfCheck();
                return;
            }
            int value = askForByte();
            status |= DRQ;
            if (value == FORMAT_MARK) {
                writer.putMark();
            } else if (value == FORMAT_CHECK) {
                writer.putHalfOfCheck();
            } else {
                writer.putByte(value);
            }
        }

        private void putNextOfSector() {
            int n = writer.count;
            int dataEnd = DATA_START + reader.dataSize;
            if (n < ZEROS_END) {
                writer.putByte(0);
            } else if (n < MARKS_END) {
                writer.putMark();
            } else if (n < DATA_START) {
                writer.putByte(writesDeleted ? DELETED_BYTE : DATA_BYTE);
            } else if (n < dataEnd) {
                writer.putByte(askForByte());
                if (n < dataEnd - 1) {
                    status |= DRQ;
                }
            } else if (n < dataEnd + 2) {
                writer.putHalfOfCheck();
            } else {
                writer.putByte(GAP_BYTE);
            }
        }

        private int askForByte() {
            if (has(DRQ)) {
                status |= LOST;
                return 0;
            }
            return data;
        }
    }

    /** The BUFFER. */
    private static final class Store {
        private static final int ROOM = 200;
        private static final int MOST_AT_ONCE = 100;

        private final int[] bytes;
        private int size;
        private int next;

        Store() {
            bytes = new int[ROOM];
        }

        void makeEmpty() {
            size = 0;
            next = 0;
        }

        boolean hasRoomFor(int count) {
            return count <= ROOM - size;
        }

        /** What comes when there is no room is lost. */
        void append(int value) {
            if (size >= 0 && size < ROOM) {
                bytes[size] = value;
                size++;
            }
        }

        int byteAt(int k) {
            if (k < 0 || k >= size || k >= ROOM) {
                return NONE;
            }
            return bytes[k];
        }

        /** Behind the end it stays there, so that bytes which come later are not passed over. */
        int nextByte() {
            int value = byteAt(next);
            if (value == NONE) {
                return 0;
            }
            next++;
            return value;
        }
    }
}
