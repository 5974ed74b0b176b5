/**
 * A station of telecontrol by IEC 60870-5: three connections by part 104 that share one queue of
 * events, and a serial line by part 101.
 */
public final class TelecontrolPost {
    private static final int CONNECTIONS = 3;
    private static final int SERIAL = 3;

    private static final int CLOSED = 0;
    private static final int STOPPED = 1;
    private static final int STARTED = 2;
    private static final int STOPPING = 3;
    private static final int NOT_RESET = 1;
    private static final int RESET = 2;

    private static final int MOST_POINTS = 32;
    private static final int MOST_EVENTS = 48;
    private static final int MOST_ANSWERS = 16;
    private static final int KEPT_OPERATIONS = 16;
    private static final int MOST_GOING_ON = 8;
    private static final int NO_OPERATION = -100;

    private static final int MOST_WAITING = 1000;
    private static final int FEW_WAITING = 256;
    private static final int MOST_UNCONFIRMED = 12;
    private static final int MOST_CAME = 8;
    private static final int NUMBERS = 32767;
    private static final int LONGEST_FRAME = 259;
    private static final int LONGEST_TOLD = 249;

    private static final int CONFIRM_TIME = 15000;
    private static final int ACKNOWLEDGE_TIME = 10000;
    private static final int IDLE_TIME = 20000;
    private static final int SELECTED_TIME = 10000;

    private static final int FRAME = 104;
    private static final int SHORT_FRAME = 16;
    private static final int FRAME_END = 22;

    private static final int RESET_LINK = 0;
    private static final int DATA = 3;
    private static final int DATA_UNCONFIRMED = 4;
    private static final int LINK_STATE = 9;
    private static final int CLASS_ONE = 10;
    private static final int CLASS_TWO = 11;
    private static final int CONFIRMED = 0;
    private static final int DATA_TOLD = 8;
    private static final int NO_DATA = 9;
    private static final int LINK_STATE_TOLD = 11;

    private static final int STARTDT = 7;
    private static final int STARTDT_DONE = 11;
    private static final int STOPDT = 19;
    private static final int STOPDT_DONE = 35;
    private static final int TESTFR = 67;
    private static final int TESTFR_DONE = 131;

    private static final int SINGLE_COMMAND = 45;
    private static final int DOUBLE_COMMAND = 46;
    private static final int SET_POINT = 50;
    private static final int END_OF_RESET = 70;
    private static final int INTERROGATION = 100;
    private static final int COUNTERS = 101;
    private static final int READ = 102;
    private static final int CLOCK = 103;
    private static final int TEST = 104;
    private static final int PROCESS_RESET = 105;

    private static final int SPONTANEOUS = 3;
    private static final int INITIALIZED = 4;
    private static final int ASKED = 5;
    private static final int ACTIVATION = 6;
    private static final int ACTIVATED = 7;
    private static final int DEACTIVATION = 8;
    private static final int DEACTIVATED = 9;
    private static final int ENDED = 10;
    private static final int NO_SUCH_TYPE = 44;
    private static final int NO_SUCH_CAUSE = 45;
    private static final int NO_SUCH_STATION = 46;
    private static final int NO_SUCH_ADDRESS = 47;
    private static final int CAUSE_BITS = 63;
    private static final int NEGATIVE = 64;
    private static final int TEST_BIT = 128;
    private static final int SELECT_BIT = 128;

    private static final int STEP = 2;
    private static final int FLOAT = 5;
    private static final int COUNTER = 6;
    private static final int FIRST_COMMAND = 7;
    private static final int LAST_KIND = 9;
    private static final int LAST_GROUP = 16;

    private static final int STATION_ASKED = 20;
    private static final int ALL_COUNTERS = 5;
    private static final int COUNTER_GROUPS = 4;
    private static final int COUNTERS_TOLD = 37;

    private static final long LAST_TIME = 3155759999999L;
    private static final int MINUTE = 60000;
    private static final int DAY = 86400000;
    private static final int TIME_BYTES = 7;

    private static final int[] TYPES = {1, 3, 5, 9, 11, 13, 15};
    private static final int[] TIMED_TYPES = {30, 31, 32, 34, 35, 36, 37};
    private static final int[] LEAST_VALUES = {0, 0, -64, -32768, -32768, -2147483648, -2147483648};
    private static final int[] GREATEST_VALUES = {1, 3, 63, 32767, 32767, 2147483647, 2147483647};
    private static final int[] OBJECT_BYTES = {1, 1, 2, 3, 3, 5, 5};
    private static final int[] MONTH_DAYS = {31, 28, 31, 30, 31, 30, 31, 31, 30, 31, 30, 31};

    private final int station;
    private final Point[] points = new Point[MOST_POINTS];
    private int pointCount;
    private final Connection[] connections = new Connection[CONNECTIONS];
    private final Serial serialLine = new Serial();
    private final Events events = new Events();
    private final Operation[] operations = new Operation[KEPT_OPERATIONS + MOST_GOING_ON];
    private int operationsEver;
    private int countersBegun;
    private long clockTime;
    private boolean clockSet;
    // Timers run on a time of their own: setting the clock must not move them.
    private long now;
    private final Selection selection = new Selection();
    private final ByteRow asked = new ByteRow(LONGEST_FRAME);
    private final ByteRow told = new ByteRow(LONGEST_FRAME);

    public TelecontrolPost(int station) {
        this.station = station >= 1 && station <= 65534 ? station : 1;
        for (int i = 0; i < connections.length; i++) {
            connections[i] = new Connection(i);
        }
        for (int i = 0; i < operations.length; i++) {
            operations[i] = new Operation();
        }
    }

    public int point(int address, int kind, int group, boolean selects)
            throws IllegalArgumentException, IllegalStateException {
        if (address < 1 || address > 65535 || kind < 0 || kind > LAST_KIND) {
            throw new IllegalArgumentException("no such address or kind");
        }
        if (group < 0 || group > LAST_GROUP || selects && kind < FIRST_COMMAND) {
            throw new IllegalArgumentException("no such group, or nothing to select");
        }
        if (pointCount == MOST_POINTS || findPoint(address) >= 0) {
            throw new IllegalStateException("no room, or the address is there");
        }
        points[pointCount] = new Point(address, kind, group, selects);
        pointCount++;
        return pointCount - 1;
    }

    public void serial(int address, int cause, int station, int object) throws IllegalArgumentException {
        if (address < 0 || address > 254 || cause < 1 || cause > 2) {
            throw new IllegalArgumentException("no such link address or size of cause");
        }
        if (station < 1 || station > 2 || object < 1 || object > 3) {
            throw new IllegalArgumentException("no such size of station or address");
        }
        if (station == 1 && this.station > 255) {
            throw new IllegalArgumentException("the station's number does not fit");
        }
        serialLine.setUp(address, cause, station, object);
        selection.leave(SERIAL);
    }

    public void change(int p, int value, int quality, boolean event) throws IllegalArgumentException {
        if (p < 0 || p >= pointCount || points[p].isCommand()) {
            throw new IllegalArgumentException("no such point, or one of commands");
        }
        Point changed = points[p];
        if (!changed.mayBe(value, quality)) {
            throw new IllegalArgumentException("no such value or quality");
        }
        changed.value = value;
        changed.quality = quality;
        if (event) {
            makeEvent(changed);
            sendWhatMay(activeLine());
        }
    }

    public void clock(long time) throws IllegalArgumentException {
        if (time < 0 || time > LAST_TIME) {
            throw new IllegalArgumentException("no such time");
        }
        clockTime = time;
        clockSet = true;
    }

    public int advance(int time) throws IllegalArgumentException {
        if (time < 0 || time > 100000) {
            throw new IllegalArgumentException("no such time");
        }
        now += time;
        clockTime += time;
        int closed = 0;
        for (int i = 0; i < CONNECTIONS; i++) {
            if (connections[i].state != CLOSED) {
                lookAtTimers(connections[i]);
                closed += connections[i].state == CLOSED ? 1 : 0;
            }
        }
        return closed;
    }

    public void open(int line) throws IllegalArgumentException, IllegalStateException {
        if (line < 0 || line >= CONNECTIONS) {
            throw new IllegalArgumentException("no such line");
        }
        if (connections[line].state != CLOSED) {
            throw new IllegalStateException("it is not closed");
        }
        connections[line].state = STOPPED;
        connections[line].heardAt = now;
    }

    public void close(int line) throws IllegalArgumentException, IllegalStateException {
        if (line < 0 || line >= CONNECTIONS) {
            throw new IllegalArgumentException("no such line");
        }
        if (connections[line].state == CLOSED) {
            throw new IllegalStateException("it is closed");
        }
        shut(connections[line]);
    }

    public int receive(int line, long bytes, int n) throws IllegalArgumentException, IllegalStateException {
        if (line < 0 || line > SERIAL || n < 1 || n > 8) {
            throw new IllegalArgumentException("no such line or n");
        }
        Line hearing = lineOf(line);
        if (hearing.state == CLOSED) {
            throw new IllegalStateException("it is closed");
        }
        hearing.heardAt = now;
        int came = 0;
        while (came < n && hearing.state != CLOSED) {
            came++;
            hearing.heard.put((int) (bytes >> 8 * (n - came)));
            if (!hearing.mayBecomeFrame()) {
                hearing.heard.clear();
                refuse(hearing);
            } else if (hearing.isWholeFrame()) {
                if (line == SERIAL) {
                    hearSerialFrame();
                } else {
                    hearFrame(connections[line]);
                }
                hearing.heard.clear();
            }
        }
        return came;
    }

    public long take(int line) throws IllegalArgumentException {
        if (line < 0 || line > SERIAL) {
            throw new IllegalArgumentException("no such line");
        }
        ByteRow waiting = lineOf(line).waiting;
        int many = Math.min(7, waiting.length);
        long taken = many;
        for (int i = 0; i < 7; i++) {
            taken = taken << 8 | waiting.at(i);
        }
        waiting.removeFirst(many);
        sendWhatMay(line);
        return taken;
    }

    public int done(int k, boolean good) throws IllegalArgumentException {
        Operation ended = findOperation(k);
        if (ended == null || !ended.goesOn) {
            throw new IllegalArgumentException("there is none that goes on");
        }
        ended.goesOn = false;
        Line line = lineOf(ended.line);
        if (ended.closings == line.closings) {
            comeBack(line, ended.asked, good ? ENDED : ENDED | NEGATIVE);
            shutIfTooMany(line);
            sendWhatMay(line.index);
        }
        return ended.point;
    }

    public int operation(int k, int what) throws IllegalArgumentException {
        Operation kept = findOperation(k);
        if (what < 0 || what > 4 || kept == null || k < operationsEver - KEPT_OPERATIONS) {
            throw new IllegalArgumentException("no such what, or it is not kept");
        }
        switch (what) {
            case 0:
                return kept.point;
            case 1:
                return kept.value;
            case 2:
                return kept.qualifier;
            case 3:
                return kept.line;
            default:
                return kept.goesOn ? 1 : 0;
        }
    }

    public int look(int line, int what) throws IllegalArgumentException {
        if (line < 0 || line > SERIAL || what < 0 || what > 6) {
            throw new IllegalArgumentException("no such line or what");
        }
        Line seen = lineOf(line);
        switch (what) {
            case 0:
                return seen.state;
            case 1:
                return seen.waiting.length;
            case 6:
                return seen.answers.many;
            default:
                return line == SERIAL ? 0 : connections[line].numberOf(what);
        }
    }

    public int count(int what) throws IllegalArgumentException {
        switch (what) {
            case 0:
                return events.many;
            case 1:
                return events.sent();
            case 2:
                return events.lost;
            case 3:
                return operationsEver;
            case 4:
                return selection.isLive(now) ? selection.point : -1;
            case 5:
                return activeLine();
            case 6:
                return clockSet ? 1 : 0;
            default:
                throw new IllegalArgumentException("no such what");
        }
    }

    public long time() {
        return clockTime;
    }

    // What both sorts of lines have in common.

    private Line lineOf(int line) {
        return line >= 0 && line < CONNECTIONS ? connections[line] : serialLine;
    }

    private int findPoint(int address) {
        for (int i = 0; i < pointCount; i++) {
            if (points[i].address == address) {
                return i;
            }
        }
        return -1;
    }

    private int activeLine() {
        for (int i = 0; i < CONNECTIONS; i++) {
            if (connections[i].state == STARTED) {
                return i;
            }
        }
        return serialLine.state == RESET ? SERIAL : -1;
    }

    /** With no line active the events stay sent where they were: that line may still confirm them. */
    private void takeEventsToActiveLine() {
        int active = activeLine();
        if (active >= 0) {
            events.unsendAllBut(active);
        }
    }

    private void shut(Connection line) {
        line.clearRows();
        line.forgetNumbers();
        line.state = CLOSED;
        line.closings++;
        selection.leave(line.index);
        events.unsend(line.index);
    }

    /** What can't be understood closes a connection; the serial line is deaf to it. */
    private void refuse(Line line) {
        if (line.index < CONNECTIONS) {
            shut(connections[line.index]);
        }
    }

    private void shutIfTooMany(Line line) {
        if (line.tooManyAnswers && line.index < CONNECTIONS) {
            shut(connections[line.index]);
        }
        line.tooManyAnswers = false;
    }

    private void makeEvent(Point changed) {
        Event made = events.add();
        if (made != null) {
            made.type = TIMED_TYPES[changed.kind];
            made.address = changed.address;
            changed.tell(made.body, countersBegun);
            putTime(made.body);
        }
    }

    // Connections: what comes.

    private void hearFrame(Connection line) {
        if (!line.isAnyFrame()) {
            shut(line);
        } else if (line.isUnnumbered()) {
            hearUnnumbered(line);
        } else {
            confirm(line);
        }
        if (line.state == STARTED && line.isInformation()) {
            line.noteCame(now);
            asked.copyFrom(line.heard, 6, line.heard.length);
            ask(line);
        }
        stopWhenConfirmed(line);
        sendWhatMay(line.index);
        if (line.came >= MOST_CAME) {
            sendSupervisory(line);
        }
    }

    private void confirm(Connection line) {
        int many = line.confirmedBy(line.heard.number(4, 2));
        events.confirm(line.index, line.oldestSent(), many);
        line.unconfirmed -= many;
    }

    private void hearUnnumbered(Connection line) {
        switch (line.heard.at(2)) {
            case STARTDT:
                start(line);
                break;
            case STOPDT:
                stop(line);
                break;
            case TESTFR:
                sendControl(line, TESTFR_DONE, 0);
                break;
            case TESTFR_DONE:
                line.testIsOut = false;
                break;
            default:
                shut(line);
                break;
        }
    }

    private void start(Connection line) {
        for (int i = 0; i < CONNECTIONS; i++) {
            if (connections[i].state == STARTED) {
                connections[i].state = STOPPED;
            }
        }
        line.state = STARTED;
        takeEventsToActiveLine();
        sendControl(line, STARTDT_DONE, 0);
    }

    private void stop(Connection line) {
        if (line.state == STOPPED) {
            sendControl(line, STOPDT_DONE, 0);
        } else if (line.state == STARTED) {
            line.state = STOPPING;
            takeEventsToActiveLine();
        }
    }

    private void stopWhenConfirmed(Connection line) {
        if (line.state == STOPPING && line.unconfirmed == 0) {
            line.state = STOPPED;
            sendControl(line, STOPDT_DONE, 0);
        }
    }

    private void lookAtTimers(Connection line) {
        if (line.isLate(now)) {
            shut(line);
            return;
        }
        if (line.came > 0 && now - line.cameAt >= ACKNOWLEDGE_TIME) {
            sendSupervisory(line);
        }
        if (line.state != CLOSED && !line.testIsOut && now - line.heardAt >= IDLE_TIME) {
            line.testIsOut = true;
            line.testAt = now;
            sendControl(line, TESTFR, 0);
        }
    }

    // Connections: what goes.

    private void sendSupervisory(Connection line) {
        line.came = 0;
        sendControl(line, 1, line.nextToCome);
    }

    private void sendControl(Connection line, int control, int number) {
        if (line.waiting.length + 6 > MOST_WAITING) {
            shut(line);
            return;
        }
        line.waiting.put(FRAME);
        line.waiting.put(4);
        line.waiting.putNumber(control, 2);
        line.waiting.putNumber(2 * number, 2);
    }

    /** The bound of the loop is the window: each turn makes one more frame unconfirmed. */
    private void sendWhatMay(int index) {
        if (index < 0 || index >= CONNECTIONS) {
            return;
        }
        Connection line = connections[index];
        for (int i = 0; i < MOST_UNCONFIRMED && line.maySend(); i++) {
            Answer first = line.answers.first();
            if (first != null) {
                tellAnswer(line, first);
            } else if (!tellEvent(line, line.nextToSend)) {
                return;
            }
            sendTold(line);
        }
    }

    private void sendTold(Connection line) {
        line.waiting.put(FRAME);
        line.waiting.put(told.length + 4);
        line.waiting.putNumber(2 * line.nextToSend, 2);
        line.waiting.putNumber(2 * line.nextToCome, 2);
        line.waiting.append(told);
        line.noteSent(now);
    }

    // What is told, on any line: each of these leaves an ASDU in told.

    private boolean tellEvent(Line line, int number) {
        Event event = activeLine() == line.index ? events.firstUnsent() : null;
        if (event == null) {
            return false;
        }
        event.line = line.index;
        event.number = number;
        putHead(line, event.type, SPONTANEOUS, 0);
        told.putNumber(event.address, line.objectSize);
        told.append(event.body);
        return true;
    }

    /** An interrogation stays the first answer until it has come back for the last time. */
    private void tellAnswer(Line line, Answer first) {
        if (isTelling(first)) {
            tellPoints(line, first);
            return;
        }
        told.copyFrom(first.row, 0, first.row.length);
        if (first.interrogates && !first.begun) {
            first.begun = true;
            return;
        }
        if (first.interrogates) {
            told.set(2, first.row.at(2) & TEST_BIT | ENDED);
        }
        line.answers.removeFirst();
    }

    private void tellPoints(Line line, Answer answer) {
        Point next = nextToTell(answer);
        int kind = next == null ? 0 : next.kind;
        int size = line.objectSize + OBJECT_BYTES[kind];
        putHead(line, TYPES[kind], answer.row.at(2) & TEST_BIT | answer.cause(), originOf(line, answer.row));
        int many = 0;
        while (many < MOST_POINTS && next != null && next.kind == kind && told.length + size <= LONGEST_TOLD) {
            told.putNumber(next.address, line.objectSize);
            next.tell(told, countersBegun);
            answer.lastTold = next.address;
            many++;
            next = nextToTell(answer);
        }
        told.set(1, many);
    }

    /** Found anew each time, for points may come while an interrogation waits. */
    private Point nextToTell(Answer answer) {
        Point next = null;
        for (int i = 0; i < pointCount; i++) {
            Point p = points[i];
            if (p.address > answer.lastTold && answer.asksFor(p) && (next == null || p.address < next.address)) {
                next = p;
            }
        }
        return next;
    }

    private boolean isTelling(Answer answer) {
        return answer != null && answer.interrogates && answer.begun && nextToTell(answer) != null;
    }

    private void putHead(Line line, int type, int cause, int origin) {
        told.clear();
        told.put(type);
        told.put(1);
        told.put(cause);
        if (line.causeSize == 2) {
            told.put(origin);
        }
        told.putNumber(station, line.stationSize);
    }

    private int originOf(Line line, ByteRow asdu) {
        return line.causeSize == 2 ? asdu.at(3) : 0;
    }

    // The serial line.

    private void hearSerialFrame() {
        int function = serialLine.functionHeard();
        if (isCounted(function)) {
            if (serialLine.isRepeated()) {
                serialLine.sendAgain();
                return;
            }
            serialLine.latestBit = serialLine.frameBit();
            events.confirmAll(SERIAL);
        }
        switch (function) {
            case RESET_LINK:
                resetSerial();
                break;
            case LINK_STATE:
                answerSerial(serialLine.plain, LINK_STATE_TOLD, false);
                break;
            case DATA:
            case DATA_UNCONFIRMED:
                asked.copyFrom(serialLine.heard, 6, serialLine.heard.length - 2);
                ask(serialLine);
                if (function == DATA) {
                    answerSerial(serialLine.kept, CONFIRMED, false);
                }
                break;
            case CLASS_ONE:
            case CLASS_TWO:
                answerClass(function);
                break;
            default:
                break;
        }
    }

    private void resetSerial() {
        serialLine.reset();
        events.unsend(SERIAL);
        takeEventsToActiveLine();
        answerSerial(serialLine.plain, CONFIRMED, false);
    }

    private void answerClass(int function) {
        Answer first = serialLine.answers.first();
        boolean withTold = false;
        if (first != null && isTelling(first) == (function == CLASS_TWO)) {
            tellAnswer(serialLine, first);
            withTold = true;
        } else if (function == CLASS_ONE) {
            withTold = tellEvent(serialLine, 0);
        }
        answerSerial(serialLine.kept, withTold ? DATA_TOLD : NO_DATA, withTold);
    }

    /** Whether a frame with this function must have FCV, and a new FCB. */
    private static boolean isCounted(int function) {
        return function == DATA || function == CLASS_ONE || function == CLASS_TWO;
    }

    private boolean hasClassOne() {
        Answer first = serialLine.answers.first();
        if (first != null && !isTelling(first)) {
            return true;
        }
        return activeLine() == SERIAL && events.firstUnsent() != null;
    }

    private void answerSerial(ByteRow frame, int function, boolean withTold) {
        frame.clear();
        if (withTold) {
            frame.put(FRAME);
            frame.put(told.length + 2);
            frame.put(told.length + 2);
        }
        frame.put(withTold ? FRAME : SHORT_FRAME);
        int from = frame.length;
        frame.put(hasClassOne() ? function + 32 : function);
        frame.put(serialLine.address);
        if (withTold) {
            frame.append(told);
        }
        frame.put(frame.sum(from, frame.length));
        frame.put(FRAME_END);
        serialLine.send(frame);
    }

    // Procedures: what is asked, and what comes back.

    private void ask(Line line) {
        int head = 2 + line.causeSize + line.stationSize;
        int type = asked.at(0);
        int bytes = bytesWanted(type);
        boolean isOne = asked.at(1) == 1 && asked.length == head + line.objectSize + bytes;
        if (asked.length < head || bytes >= 0 && !isOne) {
            refuse(line);
            return;
        }
        int point = findPoint(asked.number(head, line.objectSize));
        int objection = bytes < 0 ? NO_SUCH_TYPE : objectionTo(line, type, head);
        if (objection != 0) {
            comeBack(line, asked, objection | NEGATIVE);
        } else if (isCommandType(type)) {
            command(line, point, head + line.objectSize);
        } else if (type == READ) {
            tellOne(line, points[point]);
        } else {
            askStation(line, type, head + line.objectSize);
        }
        shutIfTooMany(line);
    }

    /** How many bytes behind the address; -1 of a type that nobody may ask. */
    private static int bytesWanted(int type) {
        switch (type) {
            case READ:
                return 0;
            case SINGLE_COMMAND:
            case DOUBLE_COMMAND:
            case INTERROGATION:
            case COUNTERS:
            case PROCESS_RESET:
                return 1;
            case TEST:
                return 2;
            case SET_POINT:
                return 5;
            case CLOCK:
                return TIME_BYTES;
            default:
                return -1;
        }
    }

    private int objectionTo(Line line, int type, int head) {
        int address = asked.number(head, line.objectSize);
        int point = findPoint(address);
        if (!mayHaveCause(type, asked.at(2) & CAUSE_BITS)) {
            return NO_SUCH_CAUSE;
        }
        if (!isForStation(line, type)) {
            return NO_SUCH_STATION;
        }
        boolean isOfPoint = type == READ || isCommandType(type);
        boolean fits = isOfPoint ? point >= 0 && points[point].fits(type) : address == 0;
        return fits ? 0 : NO_SUCH_ADDRESS;
    }

    private static boolean isCommandType(int type) {
        return type == SINGLE_COMMAND || type == DOUBLE_COMMAND || type == SET_POINT;
    }

    private static boolean mayHaveCause(int type, int cause) {
        if (type == READ) {
            return cause == ASKED;
        }
        return cause == ACTIVATION || cause == DEACTIVATION && isCommandType(type);
    }

    private boolean isForStation(Line line, int type) {
        int number = asked.number(2 + line.causeSize, line.stationSize);
        int each = line.stationSize == 1 ? 255 : 65535;
        boolean mayBeEach = type == INTERROGATION || type == COUNTERS || type == CLOCK || type == PROCESS_RESET;
        return number == station || number == each && mayBeEach;
    }

    private void askStation(Line line, int type, int at) {
        int first = asked.at(at);
        switch (type) {
            case INTERROGATION:
                interrogate(line, first - STATION_ASKED, LAST_GROUP, false);
                break;
            case COUNTERS:
                interrogate(line, first == ALL_COUNTERS ? 0 : first == 0 ? -1 : first, COUNTER_GROUPS, true);
                break;
            case CLOCK:
                comeBack(line, asked, setClock(at) ? ACTIVATED : ACTIVATED | NEGATIVE);
                break;
            case TEST:
                comeBack(line, asked, first == 170 && asked.at(at + 1) == 85 ? ACTIVATED : ACTIVATED | NEGATIVE);
                break;
            default:
                resetProcess(line, first == 1);
                break;
        }
    }

    private void interrogate(Line line, int group, int lastGroup, boolean counters) {
        if (group < 0 || group > lastGroup || interrogationGoesOn(line)) {
            comeBack(line, asked, ACTIVATED | NEGATIVE);
            return;
        }
        countersBegun += counters ? 1 : 0;
        Answer answer = comeBack(line, asked, ACTIVATED);
        if (answer != null) {
            answer.interrogates = true;
            answer.counters = counters;
            answer.group = group;
        }
    }

    /** One that something is before has not begun; one that has only its end to tell does not go on. */
    private boolean interrogationGoesOn(Line line) {
        for (int i = 0; i < line.answers.many; i++) {
            Answer answer = line.answers.get(i);
            if (answer.interrogates && (!answer.begun || nextToTell(answer) != null)) {
                return true;
            }
        }
        return false;
    }

    private void tellOne(Line line, Point read) {
        putHead(line, TYPES[read.kind], asked.at(2) & TEST_BIT | ASKED, originOf(line, asked));
        told.putNumber(read.address, line.objectSize);
        read.tell(told, countersBegun);
        addAnswer(line, told);
    }

    private void resetProcess(Line line, boolean good) {
        comeBack(line, asked, good ? ACTIVATED : ACTIVATED | NEGATIVE);
        if (good) {
            selection.forget();
            putHead(line, END_OF_RESET, asked.at(2) & TEST_BIT | INITIALIZED, originOf(line, asked));
            told.putNumber(0, line.objectSize);
            told.put(2);
            addAnswer(line, told);
        }
    }

    private Answer comeBack(Line line, ByteRow asdu, int cause) {
        Answer answer = addAnswer(line, asdu);
        if (answer != null) {
            answer.row.set(2, asdu.at(2) & TEST_BIT | cause);
        }
        return answer;
    }

    /** Null when there is no room: what was asked is done first, the line is shut behind it. */
    private Answer addAnswer(Line line, ByteRow asdu) {
        Answer answer = line.answers.add();
        if (answer == null) {
            line.tooManyAnswers = true;
        } else {
            answer.row.copyFrom(asdu, 0, asdu.length);
        }
        return answer;
    }

    // Commands.

    private boolean leaveSelected(Line line, int point) {
        boolean isSelected = selection.isOf(line.index, point, now);
        if (isSelected) {
            selection.forget();
        }
        return isSelected;
    }

    private void command(Line line, int point, int at) {
        int kind = points[point].kind;
        int last = asked.at(asked.length - 1);
        int value = kind == 7 ? last & 1 : kind == 8 ? last & 3 : asked.number(at, 4);
        boolean isValue = kind != 8 || value == 1 || value == 2;
        int cause = ACTIVATED;
        boolean good;
        if ((asked.at(2) & CAUSE_BITS) == DEACTIVATION) {
            cause = DEACTIVATED;
            good = leaveSelected(line, point);
        } else if ((last & SELECT_BIT) != 0) {
            good = isValue && select(line, point, value, last);
        } else {
            good = mayExecute(line, point, value, last) && isValue;
            if (good) {
                beginOperation(line, point, value, last);
            }
        }
        comeBack(line, asked, good ? cause : cause | NEGATIVE);
    }

    private boolean select(Line line, int point, int value, int last) {
        if (!points[point].selects || selection.isLive(now)) {
            return false;
        }
        selection.point = point;
        selection.line = line.index;
        selection.at = now;
        selection.value = value;
        selection.qualifier = last & 127;
        return true;
    }

    /** An execution uses its line's selection up, whatever comes of it. */
    private boolean mayExecute(Line line, int point, int value, int last) {
        if (points[point].selects) {
            boolean isSame = selection.value == value && selection.qualifier == (last & 127);
            if (!leaveSelected(line, point) || !isSame) {
                return false;
            }
        }
        int goingOn = 0;
        for (int i = 0; i < operations.length; i++) {
            if (operations[i].goesOn && operations[i].point == point) {
                return false;
            }
            goingOn += operations[i].goesOn ? 1 : 0;
        }
        return goingOn < MOST_GOING_ON;
    }

    private void beginOperation(Line line, int point, int value, int last) {
        Operation begun = unusedOperation();
        begun.number = operationsEver;
        begun.point = point;
        begun.value = value;
        begun.qualifier = last & 127;
        begun.line = line.index;
        begun.closings = line.closings;
        begun.goesOn = true;
        begun.asked.copyFrom(asked, 0, asked.length);
        operationsEver++;
    }

    /** There is always one: 15 older ones are kept and 7 go on at most, of 24. */
    private Operation unusedOperation() {
        int i = 0;
        while (i < operations.length - 1 && isUsed(operations[i])) {
            i++;
        }
        return operations[i];
    }

    private boolean isUsed(Operation operation) {
        return operation.goesOn || operation.number > operationsEver - KEPT_OPERATIONS;
    }

    private Operation findOperation(int k) {
        for (int i = 0; i < operations.length; i++) {
            if (k >= 0 && operations[i].number == k) {
                return operations[i];
            }
        }
        return null;
    }

    // The clock.

    private void putTime(ByteRow row) {
        int days = (int) (clockTime / DAY);
        int inDay = (int) (clockTime % DAY);
        int weekday = (days + 5) % 7 + 1;
        int year = 0;
        while (year < 400 && days >= daysOfYear(year)) {
            days -= daysOfYear(year);
            year++;
        }
        int month = 0;
        while (month < 11 && days >= daysOfMonth(month, year)) {
            days -= daysOfMonth(month, year);
            month++;
        }
        row.putNumber(inDay % MINUTE, 2);
        row.put(inDay / MINUTE % 60 + (clockSet ? 0 : 128));
        row.put(inDay / (60 * MINUTE));
        row.put(days + 1 + 32 * weekday);
        row.put(month + 1);
        row.put(year % 100);
    }

    private boolean setClock(int at) {
        int inMinute = asked.number(at, 2);
        int minute = asked.at(at + 2) & 63;
        int hour = asked.at(at + 3) & 31;
        int day = asked.at(at + 4) & 31;
        int month = (asked.at(at + 5) & 15) - 1;
        int year = asked.at(at + 6) & 127;
        if (inMinute >= MINUTE || minute >= 60 || hour >= 24 || year >= 100) {
            return false;
        }
        if (month < 0 || month > 11 || day < 1 || day > daysOfMonth(month, year)) {
            return false;
        }
        long days = day - 1;
        for (int i = 0; i < year; i++) {
            days += daysOfYear(i);
        }
        for (int i = 0; i < month; i++) {
            days += daysOfMonth(i, year);
        }
        clockTime = days * DAY + (hour * 60 + minute) * MINUTE + inMinute;
        clockSet = true;
        return true;
    }

    private static int daysOfYear(int year) {
        return isLeap(year) ? 366 : 365;
    }

    private static int daysOfMonth(int month, int year) {
        if (month < 0 || month >= MONTH_DAYS.length) {
            return 31;
        }
        return month == 1 && isLeap(year) ? 29 : MONTH_DAYS[month];
    }

    /** Years count from 2000, which is a leap year itself. */
    private static boolean isLeap(int year) {
        return year % 4 == 0 && (year % 100 != 0 || year % 400 == 0);
    }

    /** A row of bytes that is used again and again. */
    private static final class ByteRow {
        private int[] bytes;
        private int length;

        ByteRow(int room) {
            bytes = new int[room];
        }

        void clear() {
            length = 0;
        }

        int at(int index) {
            return index >= 0 && index < length ? bytes[index] : 0;
        }

        void set(int index, int b) {
            if (index >= 0 && index < length) {
                bytes[index] = b & 255;
            }
        }

        void put(int b) {
            if (length < bytes.length) {
                bytes[length] = b & 255;
                length++;
            }
        }

        void putNumber(int number, int size) {
            for (int i = 0; i < size && length < bytes.length; i++) {
                bytes[length] = number >> 8 * i & 255;
                length++;
            }
        }

        int number(int from, int size) {
            int number = 0;
            for (int i = size - 1; i >= 0; i--) {
                number = number << 8 | at(from + i);
            }
            return number;
        }

        void append(ByteRow other) {
            for (int i = 0; i < other.length; i++) {
                put(other.at(i));
            }
        }

        /** Answers begin with little room, for few of them are ever long. */
        void copyFrom(ByteRow other, int from, int to) {
            int size = (to < other.length ? to : other.length) - from;
            if (size > bytes.length) {
                bytes = new int[LONGEST_FRAME];
            }
            length = 0;
            for (int i = 0; i < size && i < bytes.length; i++) {
                bytes[i] = other.bytes[from + i];
                length++;
            }
        }

        void removeFirst(int many) {
            int removed = Math.min(many, length);
            length -= removed;
            for (int i = 0; i < length; i++) {
                bytes[i] = bytes[i + removed];
            }
        }

        int sum(int from, int to) {
            int sum = 0;
            for (int i = from; i < to; i++) {
                sum += at(i);
            }
            return sum & 255;
        }
    }

    private static final class Point {
        private final int address;
        private final int kind;
        private final int group;
        private final boolean selects;
        private int value;
        private int quality;

        Point(int address, int kind, int group, boolean selects) {
            this.address = address;
            this.kind = kind;
            this.group = group;
            this.selects = selects;
        }

        boolean isCommand() {
            return kind >= FIRST_COMMAND;
        }

        boolean mayBe(int value, int quality) {
            int bits = kind >= STEP && kind <= FLOAT ? 241 : 240;
            if (isCommand() || (quality & ~bits) != 0) {
                return false;
            }
            return value >= LEAST_VALUES[kind] && value <= GREATEST_VALUES[kind];
        }

        boolean fits(int type) {
            switch (type) {
                case SINGLE_COMMAND:
                    return kind == 7;
                case DOUBLE_COMMAND:
                    return kind == 8;
                case SET_POINT:
                    return kind == 9;
                default:
                    return !isCommand();
            }
        }

        void tell(ByteRow row, int countersBegun) {
            if (kind < STEP) {
                row.put(value | quality);
            } else if (kind == STEP) {
                row.put(value & 127);
                row.put(quality);
            } else if (kind == COUNTER) {
                row.putNumber(value, 4);
                row.put(countersBegun & 31 | quality & 128);
            } else {
                row.putNumber(value, kind == FLOAT ? 4 : 2);
                row.put(quality);
            }
        }
    }

    private static final class Event {
        private int type;
        private int address;
        private final ByteRow body = new ByteRow(12);
        // The line where it was sent, -1 as long as it was not.
        private int line;
        private int number;
    }

    /** The queue of events, oldest first; behind the last one stand rows to use again. */
    private static final class Events {
        private final Event[] rows = new Event[MOST_EVENTS];
        private int many;
        private int lost;

        Events() {
            for (int i = 0; i < rows.length; i++) {
                rows[i] = new Event();
            }
        }

        Event add() {
            if (many == rows.length) {
                lost++;
                int oldest = firstUnsentAt();
                if (oldest < 0) {
                    return null;
                }
                remove(oldest);
            }
            Event added = rows[many];
            many++;
            added.body.clear();
            added.line = -1;
            return added;
        }

        Event firstUnsent() {
            int at = firstUnsentAt();
            return at < 0 ? null : rows[at];
        }

        private int firstUnsentAt() {
            for (int i = 0; i < many; i++) {
                if (rows[i].line < 0) {
                    return i;
                }
            }
            return -1;
        }

        private void remove(int at) {
            Event removed = rows[at];
            many--;
            for (int i = at; i < many; i++) {
                rows[i] = rows[i + 1];
            }
            rows[many] = removed;
        }

        int sent() {
            int sent = 0;
            for (int i = 0; i < many; i++) {
                sent += rows[i].line >= 0 ? 1 : 0;
            }
            return sent;
        }

        void unsend(int line) {
            for (int i = 0; i < many; i++) {
                if (rows[i].line == line) {
                    rows[i].line = -1;
                }
            }
        }

        void unsendAllBut(int line) {
            for (int i = 0; i < many; i++) {
                if (rows[i].line != line) {
                    rows[i].line = -1;
                }
            }
        }

        void confirm(int line, int from, int confirmed) {
            for (int i = many - 1; i >= 0; i--) {
                if (rows[i].line == line && (rows[i].number - from & NUMBERS) < confirmed) {
                    remove(i);
                }
            }
        }

        void confirmAll(int line) {
            for (int i = many - 1; i >= 0; i--) {
                if (rows[i].line == line) {
                    remove(i);
                }
            }
        }
    }

    /** One ASDU that comes back, or an interrogation from its first to its last. */
    private static final class Answer {
        private final ByteRow row = new ByteRow(18);
        private boolean interrogates;
        private boolean counters;
        private boolean begun;
        private int group;
        private int lastTold;

        boolean asksFor(Point p) {
            boolean isKind = counters ? p.kind == COUNTER : p.kind < COUNTER;
            return isKind && (group == 0 || group == p.group);
        }

        int cause() {
            return (counters ? COUNTERS_TOLD : STATION_ASKED) + group;
        }
    }

    /** The answers of a line that wait, in a ring. */
    private static final class Answers {
        private final Answer[] rows = new Answer[MOST_ANSWERS];
        private int start;
        private int many;

        Answers() {
            for (int i = 0; i < rows.length; i++) {
                rows[i] = new Answer();
            }
        }

        Answer get(int index) {
            return rows[(start + index) % MOST_ANSWERS];
        }

        Answer first() {
            return many == 0 ? null : get(0);
        }

        Answer add() {
            if (many == MOST_ANSWERS) {
                return null;
            }
            Answer added = rows[(start + many) % MOST_ANSWERS];
            many++;
            added.interrogates = false;
            added.begun = false;
            added.lastTold = 0;
            return added;
        }

        void removeFirst() {
            if (many > 0) {
                start = (start + 1) % MOST_ANSWERS;
                many--;
            }
        }

        void clear() {
            many = 0;
        }
    }

    private abstract static class Line {
        final int index;
        final ByteRow waiting;
        final ByteRow heard = new ByteRow(LONGEST_FRAME);
        final Answers answers = new Answers();
        int state;
        int causeSize = 2;
        int stationSize = 2;
        int objectSize = 3;
        long heardAt;
        int closings;
        boolean tooManyAnswers;

        Line(int index, int room) {
            this.index = index;
            waiting = new ByteRow(room);
        }

        /** Looks at the latest byte only: those before it were looked at when they came. */
        abstract boolean mayBecomeFrame();

        abstract boolean isWholeFrame();

        void clearRows() {
            waiting.clear();
            heard.clear();
            answers.clear();
            tooManyAnswers = false;
        }
    }

    private static final class Connection extends Line {
        private int nextToSend;
        private int unconfirmed;
        // By the lowest bits of a frame's number: the window is shorter than 16.
        private final long[] sentAt = new long[16];
        private int nextToCome;
        private int came;
        private long cameAt;
        private boolean testIsOut;
        private long testAt;

        Connection(int index) {
            super(index, MOST_WAITING);
        }

        boolean mayBecomeFrame() {
            if (heard.length == 1) {
                return heard.at(0) == FRAME;
            }
            return heard.length != 2 || heard.at(1) >= 4 && heard.at(1) <= 253;
        }

        boolean isWholeFrame() {
            return heard.length == heard.at(1) + 2;
        }

        boolean isInformation() {
            return (heard.at(2) & 1) == 0;
        }

        boolean isUnnumbered() {
            return (heard.at(2) & 3) == 3;
        }

        /** Whether the whole frame that was heard is one that may come now. */
        boolean isAnyFrame() {
            if (isInformation()) {
                return state == STARTED && heard.number(2, 2) == 2 * nextToCome && isNumberConfirmed();
            }
            if (heard.length != 6) {
                return false;
            }
            return isUnnumbered() ? heard.number(3, 3) == 0 : heard.number(2, 2) == 1 && isNumberConfirmed();
        }

        private boolean isNumberConfirmed() {
            int confirming = heard.number(4, 2);
            return (confirming & 1) == 0 && confirmedBy(confirming) <= unconfirmed;
        }

        void forgetNumbers() {
            nextToSend = 0;
            unconfirmed = 0;
            nextToCome = 0;
            came = 0;
            testIsOut = false;
        }

        int oldestSent() {
            return nextToSend - unconfirmed & NUMBERS;
        }

        int confirmedBy(int confirming) {
            return (confirming >> 1) - oldestSent() & NUMBERS;
        }

        boolean maySend() {
            return state == STARTED && unconfirmed < MOST_UNCONFIRMED && waiting.length < FEW_WAITING;
        }

        void noteSent(long now) {
            sentAt[nextToSend & 15] = now;
            nextToSend = nextToSend + 1 & NUMBERS;
            unconfirmed++;
            came = 0;
        }

        void noteCame(long now) {
            nextToCome = nextToCome + 1 & NUMBERS;
            if (came == 0) {
                cameAt = now;
            }
            came++;
        }

        boolean isLate(long now) {
            if (testIsOut && now - testAt >= CONFIRM_TIME) {
                return true;
            }
            return unconfirmed > 0 && now - sentAt[oldestSent() & 15] >= CONFIRM_TIME;
        }

        int numberOf(int what) {
            switch (what) {
                case 2:
                    return nextToSend;
                case 3:
                    return unconfirmed;
                case 4:
                    return nextToCome;
                default:
                    return came;
            }
        }
    }

    private static final class Serial extends Line {
        private int address;
        private int latestBit;
        private final ByteRow kept = new ByteRow(LONGEST_FRAME);
        private final ByteRow plain = new ByteRow(5);

        Serial() {
            super(SERIAL, LONGEST_FRAME);
        }

        void setUp(int address, int causeSize, int stationSize, int objectSize) {
            clearRows();
            state = NOT_RESET;
            this.address = address;
            this.causeSize = causeSize;
            this.stationSize = stationSize;
            this.objectSize = objectSize;
        }

        void reset() {
            state = RESET;
            latestBit = 0;
            kept.clear();
        }

        private boolean isShort() {
            return heard.at(0) == SHORT_FRAME;
        }

        private int frameLength() {
            return isShort() ? 5 : heard.at(1) + 6;
        }

        boolean mayBecomeFrame() {
            int place = heard.length;
            int b = heard.at(place - 1);
            if (place == 1) {
                return b == SHORT_FRAME || b == FRAME;
            }
            if (!isShort() && place <= 4) {
                return place == 2 ? b >= 3 && b <= 253 : b == (place == 3 ? heard.at(1) : FRAME);
            }
            int end = frameLength();
            if (place == end - 1) {
                return b == heard.sum(isShort() ? 1 : 4, end - 2);
            }
            return place < end || b == FRAME_END;
        }

        boolean isWholeFrame() {
            return heard.length == frameLength();
        }

        private int control() {
            return heard.at(isShort() ? 1 : 4);
        }

        int frameBit() {
            return control() & 32;
        }

        boolean isRepeated() {
            return frameBit() == latestBit;
        }

        /** What the whole frame that was heard asks; -1 of one that is ignored. */
        int functionHeard() {
            int function = control() & 15;
            boolean hasAsdu = function == DATA || function == DATA_UNCONFIRMED;
            boolean beforeReset = function == RESET_LINK || function == LINK_STATE;
            if ((control() & 64) == 0 || heard.at(isShort() ? 2 : 5) != address || hasAsdu == isShort()) {
                return -1;
            }
            if (state != RESET && !beforeReset || isCounted(function) && (control() & 16) == 0) {
                return -1;
            }
            return function;
        }

        void send(ByteRow frame) {
            waiting.clear();
            waiting.append(frame);
        }

        void sendAgain() {
            if (kept.length > 0) {
                send(kept);
            }
        }
    }

    /** Of the whole station there is at most one. */
    private static final class Selection {
        private int point = -1;
        private int line;
        private long at;
        private int value;
        private int qualifier;

        boolean isLive(long now) {
            return point >= 0 && now - at < SELECTED_TIME;
        }

        boolean isOf(int line, int point, long now) {
            return isLive(now) && this.line == line && this.point == point;
        }

        void forget() {
            point = -1;
        }

        void leave(int line) {
            if (this.line == line) {
                forget();
            }
        }
    }

    private static final class Operation {
        private int number = NO_OPERATION;
        private int point;
        private int value;
        private int qualifier;
        private int line;
        private int closings;
        private boolean goesOn;
        private final ByteRow asked = new ByteRow(18);
    }
}
