/** A text that is changed by orders: typed onto a tape, done over the whole text, or kept as scripts. */
public final class Lineorders {
    /** There is none. */
    public static final int NONE = -1;

    private static final int WIDTH = 30;
    private static final int MOST_LINES = 40;
    private static final int MOST_OUT = 100;
    private static final int MOST_SIGNS = 60;
    private static final int MOST_DEEDS = 40;
    private static final int MOST_WHOLE = 60;
    private static final int MOST_BY_LINE = 400;
    private static final int MARKS = 5;
    private static final int FILES = 4;
    private static final int SCRIPTS = 4;

    private static final int MOST_ITEMS = 12;
    private static final int MOST_STARS = 2;
    private static final int MOST_GROUPS = 2;

    private static final int FIRST_SIGN = 32;
    private static final int LAST_SIGN = 126;
    private static final int MOST_SEED = 65535;
    private static final int MOST_SAMPLE = 20;
    private static final int SAMPLE_LENGTHS = 9;
    private static final int SAMPLE_SIGNS = 6;

    // The reasons that the document numbers.
    private static final int DONE = 0;
    private static final int NO_LINE = 1;
    private static final int NOT_FOUND = 2;
    private static final int NO_MARK = 3;
    private static final int TOO_MUCH = 4;
    private static final int NOT_HELD = 5;
    private static final int NO_LABEL = 6;
    private static final int TOO_MANY_ORDERS = 7;
    private static final int NOT_BY_LINE = 8;

    // How an order tells its lines.
    private static final int WITHOUT = 0;
    private static final int ALL = 1;
    private static final int ONE = 2;
    private static final int TWO = 3;

    // What a pattern is made of.
    private static final int SIGN = 0;
    private static final int STAR = 1;
    private static final int OPEN = 2;
    private static final int CLOSE = 3;
    private static final int AGAIN = 4;
    private static final int HEAD = 5;
    private static final int TAIL = 6;
    private static final int END = 7;

    private static final long ALL_SIGNS = (1L << 37) - 1;

    private final byte[] tape;
    private final byte[][] scripts;
    private final int[] scriptSizes;
    private final int[] common;
    private final int[] pairs;
    private final Program program;
    private final Text text;
    private final Stores stores;
    private final Matcher matcher;
    private final Whole whole;
    private final ByLine byLine;
    private final History history;
    private int tapeSize;
    private int calls;
    private int latestReason;

    /** Nothing is there. */
    public Lineorders() {
        tape = new byte[MOST_SIGNS];
        scripts = new byte[SCRIPTS][MOST_SIGNS];
        scriptSizes = new int[SCRIPTS];
        for (int script = 0; script < SCRIPTS; script++) {
            scriptSizes[script] = NONE;
        }
        common = new int[(MOST_LINES + 1) * (MOST_LINES + 1)];
        pairs = new int[MOST_LINES];
        program = new Program();
        text = new Text();
        stores = new Stores();
        history = new History();
        matcher = new Matcher(program);
        Changer changer = new Changer(program, matcher);
        Stores before = new Stores();
        whole = new Whole(program, text, stores, before, matcher, changer, history);
        byLine = new ByLine(program, text, stores, before, matcher, changer);
    }

    // ---- the tape and the orders

    public int type(int sign) throws IllegalArgumentException, IllegalStateException {
        if (sign < FIRST_SIGN || sign > LAST_SIGN) {
            throw new IllegalArgumentException("no such sign");
        }
        if (tapeSize < 0 || tapeSize >= tape.length) {
            throw new IllegalStateException("the tape is full");
        }
        tape[tapeSize] = (byte) sign;
        tapeSize++;
        return tapeSize;
    }

    public int wipe() {
        int had = tapeSize;
        tapeSize = 0;
        return had;
    }

    public int fault() {
        return program.readOrders(tape, tapeSize);
    }

    public int patternFault() {
        return program.readTapePattern(tape, tapeSize);
    }

    public int run() throws IllegalStateException {
        if (program.readOrders(tape, tapeSize) != NONE) {
            throw new IllegalStateException("the tape has a fault");
        }
        calls++;
        int done = whole.perform(calls);
        latestReason = whole.reason;
        return done;
    }

    public int keep(int script) throws IndexOutOfBoundsException, IllegalStateException {
        if (isNoScript(script)) {
            throw new IndexOutOfBoundsException("no such script");
        }
        if (program.readOrders(tape, tapeSize) != NONE) {
            throw new IllegalStateException("the tape has a fault");
        }
        byte[] kept = scripts[script];
        for (int place = 0; place < tapeSize && place < kept.length && place < tape.length; place++) {
            kept[place] = tape[place];
        }
        scriptSizes[script] = tapeSize;
        return tapeSize;
    }

    public int play(int script) throws IndexOutOfBoundsException, IllegalStateException {
        if (isNoScript(script)) {
            throw new IndexOutOfBoundsException("no such script");
        }
        if (scriptSizes[script] == NONE) {
            throw new IllegalStateException("no script was kept there");
        }
        program.readOrders(scripts[script], scriptSizes[script]);
        calls++;
        int done = whole.perform(calls);
        latestReason = whole.reason;
        return done;
    }

    public int stream(int script) throws IndexOutOfBoundsException, IllegalStateException {
        if (isNoScript(script)) {
            throw new IndexOutOfBoundsException("no such script");
        }
        if (scriptSizes[script] == NONE) {
            throw new IllegalStateException("no script was kept there");
        }
        program.readOrders(scripts[script], scriptSizes[script]);
        calls++;
        history.note(text);
        int come = byLine.perform();
        latestReason = byLine.reason;
        if (latestReason == DONE) {
            history.store(calls);
        }
        return come;
    }

    public int reason() {
        return latestReason;
    }

    public int scriptLength(int script) throws IndexOutOfBoundsException {
        if (isNoScript(script)) {
            throw new IndexOutOfBoundsException("no such script");
        }
        return scriptSizes[script];
    }

    public int scriptAt(int script, int place) throws IndexOutOfBoundsException {
        if (isNoScript(script)) {
            throw new IndexOutOfBoundsException("no such script");
        }
        if (place < 0 || place >= scriptSizes[script] || place >= scripts[script].length) {
            throw new IndexOutOfBoundsException("no such sign");
        }
        return scripts[script][place];
    }

    // ---- undoing

    public int undo() throws IllegalStateException {
        if (history.kept == 0) {
            throw new IllegalStateException("no deed is kept");
        }
        history.takeBack(text);
        return history.kept;
    }

    public int undoRun() throws IllegalStateException {
        if (history.kept == 0) {
            throw new IllegalStateException("no deed is kept");
        }
        int call = history.latestCall();
        int undone = 0;
        for (int left = history.kept; left > 0 && history.latestCall() == call; left--) {
            history.takeBack(text);
            undone++;
        }
        return undone;
    }

    public int deeds() {
        return history.kept;
    }

    // ---- the text

    public int lines() {
        return text.rows.count;
    }

    public int length(int line) throws IndexOutOfBoundsException {
        if (!text.rows.has(line)) {
            throw new IndexOutOfBoundsException("no such line");
        }
        return text.rows.lengthOf(line);
    }

    public int at(int line, int place) throws IndexOutOfBoundsException {
        int sign = text.rows.signAt(line, place);
        if (sign == NONE) {
            throw new IndexOutOfBoundsException("no such line or place");
        }
        return sign;
    }

    public int id(int line) throws IndexOutOfBoundsException {
        if (!text.rows.has(line)) {
            throw new IndexOutOfBoundsException("no such line");
        }
        return text.idOf(line);
    }

    public int lineOf(int id) {
        return text.numberOf(id);
    }

    public int present() {
        return text.now;
    }

    public int mark(int mark) throws IndexOutOfBoundsException {
        if (mark < 0 || mark >= MARKS) {
            throw new IndexOutOfBoundsException("no such mark");
        }
        return text.markedLine(mark);
    }

    public int sample(int seed, int many) throws IllegalArgumentException, IllegalStateException {
        if (seed < 0 || seed > MOST_SEED || many < 1 || many > MOST_SAMPLE) {
            throw new IllegalArgumentException("seed or many is out of range");
        }
        if (text.rows.count + many > MOST_LINES) {
            throw new IllegalStateException("too many lines");
        }
        calls++;
        history.note(text);
        text.addSample(seed, many);
        history.store(calls);
        return text.rows.count;
    }

    // ---- what is held, the out, files

    public int held() {
        return stores.held.count;
    }

    public int heldLength(int row) throws IndexOutOfBoundsException {
        if (!stores.held.has(row)) {
            throw new IndexOutOfBoundsException("no such row is held");
        }
        return stores.held.lengthOf(row);
    }

    public int heldAt(int row, int place) throws IndexOutOfBoundsException {
        int sign = stores.held.signAt(row, place);
        if (sign == NONE) {
            throw new IndexOutOfBoundsException("no such row or place");
        }
        return sign;
    }

    public int outs() {
        return stores.out.count;
    }

    public int outLength(int row) throws IndexOutOfBoundsException {
        if (!stores.out.has(row)) {
            throw new IndexOutOfBoundsException("no such row of the out");
        }
        return stores.out.lengthOf(row);
    }

    public int outAt(int row, int place) throws IndexOutOfBoundsException {
        int sign = stores.out.signAt(row, place);
        if (sign == NONE) {
            throw new IndexOutOfBoundsException("no such row or place");
        }
        return sign;
    }

    public int clearOut() {
        int had = stores.out.count;
        stores.out.shrink(0);
        return had;
    }

    public int fileRows(int file) throws IndexOutOfBoundsException {
        Rows rows = stores.file(file);
        if (rows == null) {
            throw new IndexOutOfBoundsException("no such file");
        }
        return rows.count;
    }

    public int fileLength(int file, int row) throws IndexOutOfBoundsException {
        Rows rows = stores.file(file);
        if (rows == null || !rows.has(row)) {
            throw new IndexOutOfBoundsException("no such file or row");
        }
        return rows.lengthOf(row);
    }

    public int fileAt(int file, int row, int place) throws IndexOutOfBoundsException {
        Rows rows = stores.file(file);
        if (rows == null || rows.signAt(row, place) == NONE) {
            throw new IndexOutOfBoundsException("no such file, row or place");
        }
        return rows.signAt(row, place);
    }

    // ---- finding and comparing

    public int find(boolean back) throws IllegalStateException {
        if (program.readTapePattern(tape, tapeSize) != NONE) {
            throw new IllegalStateException("the tape has a fault");
        }
        return matcher.lineWith(text, 0, back);
    }

    public int findStart(int line) throws IndexOutOfBoundsException, IllegalStateException {
        if (!text.rows.has(line)) {
            throw new IndexOutOfBoundsException("no such line");
        }
        if (program.readTapePattern(tape, tapeSize) != NONE) {
            throw new IllegalStateException("the tape has a fault");
        }
        return matcher.holds(text.rows, line, 0) ? matcher.start : NONE;
    }

    public int findEnd(int line) throws IndexOutOfBoundsException, IllegalStateException {
        if (!text.rows.has(line)) {
            throw new IndexOutOfBoundsException("no such line");
        }
        if (program.readTapePattern(tape, tapeSize) != NONE) {
            throw new IllegalStateException("the tape has a fault");
        }
        return matcher.holds(text.rows, line, 0) ? matcher.end : NONE;
    }

    public int differ(int file) throws IndexOutOfBoundsException {
        Rows rows = stores.file(file);
        if (rows == null) {
            throw new IndexOutOfBoundsException("no such file");
        }
        return text.rows.count + rows.count - 2 * pairUp(rows);
    }

    public int pairOf(int file, int line) throws IndexOutOfBoundsException {
        Rows rows = stores.file(file);
        if (rows == null || !text.rows.has(line)) {
            throw new IndexOutOfBoundsException("no such file or line");
        }
        pairUp(rows);
        return line >= 1 && line <= pairs.length ? pairs[line - 1] : NONE;
    }

    public boolean isSound() {
        return text.isWell() && stores.isWell();
    }

    // ---- helpers of the face

    private boolean isNoScript(int script) {
        return script < 0 || script >= SCRIPTS;
    }

    /** Fills pairs with the row of each line; returns how many pairs there are. */
    private int pairUp(Rows rows) {
        measureCommon(rows);
        for (int line = 0; line < pairs.length; line++) {
            pairs[line] = NONE;
        }
        int found = 0;
        int line = 1;
        int row = 1;
        for (int step = 0; step < 2 * MOST_LINES && text.rows.has(line) && rows.has(row); step++) {
            if (text.rows.same(line, rows, row)) {
                if (line <= pairs.length) {
                    pairs[line - 1] = row;
                }
                found++;
                line++;
                row++;
            } else if (commonFrom(line + 1, row) >= commonFrom(line, row + 1)) {
                line++;
            } else {
                row++;
            }
        }
        return found;
    }

    /** Measures the longest common row of all that is left of both, from the ends on. */
    private void measureCommon(Rows rows) {
        for (int i = 0; i < common.length; i++) {
            common[i] = 0;
        }
        for (int line = text.rows.count; line >= 1; line--) {
            for (int row = rows.count; row >= 1; row--) {
                int most = text.rows.same(line, rows, row)
                    ? commonFrom(line + 1, row + 1) + 1
                    : Math.max(commonFrom(line + 1, row), commonFrom(line, row + 1));
                int index = (line - 1) * (MOST_LINES + 1) + row - 1;
                if (index >= 0 && index < common.length) {
                    common[index] = most;
                }
            }
        }
    }

    private int commonFrom(int line, int row) {
        int index = (line - 1) * (MOST_LINES + 1) + row - 1;
        return index >= 0 && index < common.length ? common[index] : 0;
    }

    /** The bit of a character; 0 for a sign that is none. */
    private static long bitOf(int sign) {
        if (sign >= 'a' && sign <= 'z') {
            return 1L << (sign - 'a');
        }
        if (sign >= '0' && sign <= '9') {
            return 1L << (sign - '0' + 26);
        }
        return sign == ' ' ? 1L << 36 : 0L;
    }

    /** Rows of characters, numbered from 1; room for all is made once. */
    private static final class Rows {
        private final int[] lengths;
        private final byte[] signs;
        private int count;

        private Rows(int most) {
            int room = Math.max(most, 0);
            lengths = new int[room];
            signs = new byte[room * WIDTH];
        }

        private boolean has(int row) {
            return row >= 1 && row <= count && row <= lengths.length;
        }

        private int lengthOf(int row) {
            return row >= 1 && row <= count && row <= lengths.length ? lengths[row - 1] : NONE;
        }

        private int signAt(int row, int place) {
            if (row < 1 || row > count || row > lengths.length) {
                return NONE;
            }
            if (place < 0 || place >= lengths[row - 1] || place >= WIDTH) {
                return NONE;
            }
            return signs[(row - 1) * WIDTH + place];
        }

        private void shrink(int left) {
            if (left >= 0 && left < count) {
                count = left;
            }
        }

        private void copy(Rows other) {
            int many = Math.min(other.count, Math.min(lengths.length, other.lengths.length));
            if (many < 0) {
                return;
            }
            System.arraycopy(other.lengths, 0, lengths, 0, many);
            System.arraycopy(other.signs, 0, signs, 0, many * WIDTH);
            count = many;
        }

        /** Makes empty rows, the first of which is numbered so; false if they have no room. */
        private boolean open(int at, int many) {
            if (at < 1 || at > count + 1 || many < 0 || many > lengths.length - count) {
                return false;
            }
            int behind = count - at + 1;
            System.arraycopy(lengths, at - 1, lengths, at - 1 + many, behind);
            System.arraycopy(signs, (at - 1) * WIDTH, signs, (at - 1 + many) * WIDTH, behind * WIDTH);
            for (int row = at; row < at + many; row++) {
                lengths[row - 1] = 0;
            }
            count += many;
            return true;
        }

        private void close(int from, int many) {
            if (from < 1 || many < 0 || many > count - from + 1 || count > lengths.length) {
                return;
            }
            int behind = count - from + 1 - many;
            System.arraycopy(lengths, from - 1 + many, lengths, from - 1, behind);
            System.arraycopy(signs, (from - 1 + many) * WIDTH, signs, (from - 1) * WIDTH, behind * WIDTH);
            count -= many;
        }

        private void write(int row, byte[] source, int from, int size) {
            if (row < 1 || row > count || row > lengths.length) {
                return;
            }
            if (size < 0 || size > WIDTH || from < 0 || from > source.length - size) {
                return;
            }
            System.arraycopy(source, from, signs, (row - 1) * WIDTH, size);
            lengths[row - 1] = size;
        }

        /** Adds a row behind the last one; false if there is no room for it. */
        private boolean add(byte[] source, int from, int size) {
            if (count < 0 || count >= lengths.length) {
                return false;
            }
            if (size < 0 || size > WIDTH || from < 0 || from > source.length - size) {
                return false;
            }
            System.arraycopy(source, from, signs, count * WIDTH, size);
            lengths[count] = size;
            count++;
            return true;
        }

        private boolean addRow(Rows other, int row) {
            return other.has(row) && add(other.signs, (row - 1) * WIDTH, other.lengthOf(row));
        }

        private void take(int row, Rows other, int otherRow) {
            if (other.has(otherRow)) {
                write(row, other.signs, (otherRow - 1) * WIDTH, other.lengthOf(otherRow));
            }
        }

        /** Puts the characters of a row behind those of another; false if that would be too long. */
        private boolean extend(int row, Rows other, int otherRow) {
            int more = other.lengthOf(otherRow);
            if (!has(row) || more < 0 || lengths[row - 1] + more > WIDTH) {
                return false;
            }
            int end = (row - 1) * WIDTH + lengths[row - 1];
            System.arraycopy(other.signs, (otherRow - 1) * WIDTH, signs, end, more);
            lengths[row - 1] += more;
            return true;
        }

        /** Lets the characters behind the first ones be those of the next row. */
        private void moveRest(int row, int size) {
            if (has(row) && size >= 0 && size < lengths[row - 1]) {
                write(row + 1, signs, (row - 1) * WIDTH + size, lengths[row - 1] - size);
                lengths[row - 1] = size;
            }
        }

        private void cutTo(int row, int size) {
            if (has(row) && size >= 0 && size < lengths[row - 1]) {
                lengths[row - 1] = size;
            }
        }

        private boolean same(int row, Rows other, int otherRow) {
            int size = lengthOf(row);
            if (size != other.lengthOf(otherRow)) {
                return false;
            }
            for (int place = 0; place < size; place++) {
                if (signAt(row, place) != other.signAt(otherRow, place)) {
                    return false;
                }
            }
            return true;
        }

        /** Below 0, 0 or above, as the row's end from a place on comes ahead of, with or behind another's. */
        private int compareFrom(int place, int row, int otherRow) {
            for (int at = place; at < WIDTH; at++) {
                int sign = signAt(row, at);
                int otherSign = signAt(otherRow, at);
                if (sign != otherSign) {
                    return Integer.compare(sign, otherSign);
                }
            }
            return 0;
        }
    }

    /** The lines with their ids, the marks and the present line. */
    private static final class Text {
        private final Rows rows;
        private final int[] ids;
        private final int[] marks;
        private int now;
        private int nextId;

        private Text() {
            rows = new Rows(MOST_LINES);
            ids = new int[MOST_LINES];
            marks = new int[MARKS];
            for (int mark = 0; mark < MARKS; mark++) {
                marks[mark] = NONE;
            }
        }

        /** Copies all but the next id: an id is never given again, whatever is undone. */
        private void copy(Text other) {
            rows.copy(other.rows);
            System.arraycopy(other.ids, 0, ids, 0, MOST_LINES);
            System.arraycopy(other.marks, 0, marks, 0, MARKS);
            now = other.now;
        }

        private int idOf(int line) {
            return line >= 1 && line <= rows.count && line <= ids.length ? ids[line - 1] : NONE;
        }

        private int numberOf(int id) {
            for (int line = 1; line <= rows.count && line <= ids.length; line++) {
                if (ids[line - 1] == id) {
                    return line;
                }
            }
            return NONE;
        }

        private int markedId(int mark) {
            return mark >= 0 && mark < marks.length ? marks[mark] : NONE;
        }

        private int markedLine(int mark) {
            int id = markedId(mark);
            return id == NONE ? NONE : numberOf(id);
        }

        private void setMark(int mark, int id) {
            if (mark >= 0 && mark < marks.length) {
                marks[mark] = id;
            }
        }

        private void dropMarks(int id) {
            for (int mark = 0; mark < marks.length; mark++) {
                if (marks[mark] == id) {
                    marks[mark] = NONE;
                }
            }
        }

        /** Makes new lines without characters, the first of which has this number. */
        private boolean open(int at, int many) {
            int behind = rows.count - at + 1;
            if (!rows.open(at, many) || behind < 0 || at - 1 + many + behind > ids.length) {
                return false;
            }
            System.arraycopy(ids, at - 1, ids, at - 1 + many, behind);
            for (int line = at; line < at + many; line++) {
                ids[line - 1] = nextId;
                nextId++;
            }
            return true;
        }

        private void cut(int from, int many) {
            int behind = rows.count - from + 1 - many;
            if (from < 1 || many < 0 || behind < 0 || rows.count > ids.length) {
                return;
            }
            for (int line = from; line < from + many; line++) {
                dropMarks(ids[line - 1]);
            }
            System.arraycopy(ids, from - 1 + many, ids, from - 1, behind);
            rows.close(from, many);
        }

        /** Puts a row behind the last line, as the line with this id; false if there are too many. */
        private boolean append(Rows source, int row, int id) {
            if (rows.count >= ids.length || !rows.addRow(source, row)) {
                return false;
            }
            if (rows.count >= 1 && rows.count <= ids.length) {
                ids[rows.count - 1] = id;
            }
            return true;
        }

        /** Puts the lines in the order of their old numbers that is told. */
        private void arrange(int[] order, Text spare) {
            spare.copy(this);
            for (int line = 1; line <= rows.count && line <= order.length && line <= ids.length; line++) {
                int old = order[line - 1];
                rows.take(line, spare.rows, old);
                ids[line - 1] = spare.idOf(old);
            }
        }

        private void addSample(int seed, int many) {
            byte[] made = new byte[SAMPLE_LENGTHS];
            int lots = seed;
            for (int line = 0; line < many; line++) {
                lots = nextLot(lots);
                int size = lots / 16 % SAMPLE_LENGTHS;
                for (int place = 0; place < size && place < made.length; place++) {
                    lots = nextLot(lots);
                    int lot = lots / 16 % SAMPLE_SIGNS;
                    made[place] = (byte) (lot == SAMPLE_SIGNS - 1 ? ' ' : 'a' + lot);
                }
                if (open(rows.count + 1, 1)) {
                    rows.write(rows.count, made, 0, size);
                }
            }
            now = rows.count;
        }

        private int nextLot(int lots) {
            return (25173 * lots + 13849) & MOST_SEED;
        }

        private boolean isWell() {
            if (rows.count < 0 || rows.count > MOST_LINES || now < 0 || now > rows.count) {
                return false;
            }
            if (now == 0 && rows.count > 0) {
                return false;
            }
            for (int line = 1; line <= rows.count; line++) {
                int size = rows.lengthOf(line);
                int id = idOf(line);
                if (size < 0 || size > WIDTH || id < 0 || id >= nextId || numberOf(id) != line) {
                    return false;
                }
            }
            for (int mark = 0; mark < MARKS; mark++) {
                if (markedId(mark) != NONE && markedLine(mark) == NONE) {
                    return false;
                }
            }
            return true;
        }
    }

    /** What is held, the out and the files. */
    private static final class Stores {
        private final Rows held;
        private final Rows out;
        private final Rows[] files;
        private final byte[] built;

        private Stores() {
            held = new Rows(MOST_LINES);
            out = new Rows(MOST_OUT);
            files = new Rows[FILES];
            for (int file = 0; file < FILES; file++) {
                files[file] = new Rows(MOST_LINES);
            }
            built = new byte[WIDTH];
        }

        private void copy(Stores other) {
            held.copy(other.held);
            out.copy(other.out);
            for (int file = 0; file < FILES; file++) {
                Rows mine = file(file);
                Rows others = other.file(file);
                if (mine != null && others != null) {
                    mine.copy(others);
                }
            }
        }

        private Rows file(int file) {
            return file >= 0 && file < files.length ? files[file] : null;
        }

        /** Puts rows into the out, ahead of each its number, if the first one's is told. */
        private int print(Rows rows, int from, int to, int number) {
            int before = out.count;
            for (int row = from; row <= to; row++) {
                int ahead = number == NONE ? 0 : writeNumber(number + row - from, true);
                int size = rows.lengthOf(row);
                for (int place = 0; place < size && ahead + place < built.length; place++) {
                    built[ahead + place] = (byte) rows.signAt(row, place);
                }
                if (ahead + size > WIDTH || !out.add(built, 0, ahead + size)) {
                    out.shrink(before);
                    return TOO_MUCH;
                }
            }
            return DONE;
        }

        private int printNumber(int number) {
            return out.add(built, 0, writeNumber(number, false)) ? DONE : TOO_MUCH;
        }

        private int writeNumber(int number, boolean withBlank) {
            int size = 0;
            if (number >= 10) {
                built[size] = (byte) ('0' + number / 10 % 10);
                size++;
            }
            built[size] = (byte) ('0' + number % 10);
            size++;
            if (withBlank) {
                built[size] = ' ';
                size++;
            }
            return size;
        }

        private void hold(Rows rows, int from, int to) {
            held.shrink(0);
            for (int row = from; row <= to; row++) {
                held.addRow(rows, row);
            }
        }

        private int holdMore(Rows rows, int from, int to) {
            if (held.count + to - from + 1 > MOST_LINES) {
                return TOO_MUCH;
            }
            for (int row = from; row <= to; row++) {
                held.addRow(rows, row);
            }
            return DONE;
        }

        private boolean isWell() {
            if (held.count > MOST_LINES || out.count > MOST_OUT) {
                return false;
            }
            for (int file = 0; file < FILES; file++) {
                Rows rows = file(file);
                if (rows == null || rows.count > MOST_LINES) {
                    return false;
                }
            }
            return true;
        }
    }

    /** An address: a spot, and what is added to it. */
    private static final class Address {
        private int kind;
        private int value;
        private int shift;
        private boolean shifted;

        private void clear() {
            kind = '.';
            value = 0;
            shift = 0;
            shifted = false;
        }

        private boolean isNumber() {
            return kind == '0' || kind == '$';
        }

        private boolean isNotByLine() {
            return shifted && kind != '0' && kind != '$';
        }
    }

    /** An order as it was read; orders of a block or behind g and G stand next behind their owner. */
    private static final class Order {
        private final Address first;
        private final Address second;
        private final Address target;
        private int act;
        private int where;
        private int number;
        private int pattern;
        private int from;
        private int to;
        private int next;
        private boolean running;
        private boolean found;
        private boolean over;
        private int looked;

        private Order() {
            first = new Address();
            second = new Address();
            target = new Address();
        }

        private void clear() {
            first.clear();
            second.clear();
            target.clear();
            act = 0;
            where = WITHOUT;
            number = 0;
            pattern = NONE;
            from = 0;
            to = 0;
            next = 0;
            running = false;
            found = false;
            over = false;
            looked = 0;
        }

        private boolean steers() {
            return act == ':' || act == 'b' || act == 'T' || act == 'q' || act == 'N';
        }

        private boolean isDeed() {
            return act != ':' && act != 'b' && act != 'T' && act != 'q';
        }

        private boolean holdsOthers() {
            return act == 'g' || act == 'G' || act == '{';
        }

        /** Whether the order takes all lines without a where, and none in a text without lines. */
        private boolean takesAll() {
            return act == 'g' || act == 'G' || act == 'w';
        }

        private boolean mayStandBehindNone() {
            return (act == 'a' || act == 'r' || act == 'u') && (where == ONE || where == WITHOUT);
        }

        private boolean isNotByLine() {
            if (act == 'l' || act == 'o' || act == 'O' || act == 'm' || act == 't') {
                return true;
            }
            return where >= ONE && first.isNotByLine() || where == TWO && second.isNotByLine();
        }
    }

    /** Reads signs as orders or as a pattern. Each reader stops at the first sign with which nothing goes on. */
    private static final class Program {
        private final Order[] orders;
        private final int[] kinds;
        private final long[] values;
        private byte[] signs;
        private int size;
        private int place;
        private int count;
        private int elements;
        private int stars;
        private int groups;

        private Program() {
            orders = new Order[MOST_SIGNS];
            for (int order = 0; order < MOST_SIGNS; order++) {
                orders[order] = new Order();
            }
            kinds = new int[2 * MOST_SIGNS];
            values = new long[2 * MOST_SIGNS];
            signs = new byte[0];
        }

        private Order orderAt(int index) {
            return index >= 0 && index < count && index < orders.length ? orders[index] : null;
        }

        private int signAt(int index) {
            return index >= 0 && index < size && index < signs.length ? signs[index] : NONE;
        }

        private void begin(byte[] source, int length) {
            signs = source;
            size = Math.min(length, source.length);
            place = 0;
            count = 0;
            elements = 0;
        }

        private int peek() {
            return place >= 0 && place < size && place < signs.length ? signs[place] : NONE;
        }

        private boolean pass(int sign) {
            if (place < 0 || place >= size || place >= signs.length || signs[place] != sign) {
                return false;
            }
            place++;
            return true;
        }

        private int readTapePattern(byte[] source, int length) {
            begin(source, length);
            return readPattern() == NONE || place < size ? place : NONE;
        }

        /** Reads the signs as orders; returns the fault. */
        private int readOrders(byte[] source, int length) {
            begin(source, length);
            Order owner = null;
            boolean single = false;
            for (int step = 0; step <= MOST_SIGNS; step++) {
                int index = count;
                if (!readOrder(owner != null)) {
                    return place;
                }
                Order order = orderAt(index);
                if (order != null && order.holdsOthers()) {
                    owner = order;
                    single = order.act != '{' && !pass('{');
                    continue;
                }
                if (owner != null && (single || pass('}'))) {
                    owner.next = count;
                    owner = null;
                }
                if (place >= size) {
                    return owner == null ? NONE : size;
                }
                if (!pass(';')) {
                    return place;
                }
            }
            return place;
        }

        private boolean readOrder(boolean inside) {
            if (count < 0 || count >= orders.length || orders[count] == null) {
                return false;
            }
            Order order = orders[count];
            order.clear();
            if (!readWhere(order) || !readAct(order, inside)) {
                return false;
            }
            count++;
            order.next = count;
            return true;
        }

        private boolean readWhere(Order order) {
            if (pass('%')) {
                order.where = ALL;
                return true;
            }
            if (!beginsAddress(peek())) {
                return true;
            }
            order.where = ONE;
            if (!readAddress(order.first)) {
                return false;
            }
            if (!pass(',')) {
                return true;
            }
            order.where = TWO;
            return readAddress(order.second);
        }

        private boolean beginsAddress(int sign) {
            return sign >= '0' && sign <= '9' || sign == '.' || sign == '$'
                || sign == '\'' || sign == '/' || sign == '?';
        }

        private boolean readAddress(Address address) {
            int sign = peek();
            if (!beginsAddress(sign)) {
                return false;
            }
            address.kind = sign;
            if (sign >= '0' && sign <= '9') {
                address.kind = '0';
                address.value = readNumber();
            } else {
                place++;
            }
            if (sign == '\'') {
                address.value = readFrom('a', 'e');
            } else if (sign == '/' || sign == '?') {
                address.value = readPattern();
            }
            if (address.value == NONE || (sign == '/' || sign == '?') && !pass(sign)) {
                return false;
            }
            for (int step = 0; step < MOST_SIGNS && (peek() == '+' || peek() == '-'); step++) {
                boolean less = peek() == '-';
                place++;
                int number = readNumber();
                if (number == NONE) {
                    return false;
                }
                address.shift += less ? -number : number;
                address.shifted = true;
            }
            return true;
        }

        /** Reads a number of one digit or two; NONE if there is none. */
        private int readNumber() {
            int number = NONE;
            for (int digits = 0; digits < 2; digits++) {
                int sign = peek();
                if (sign < '0' || sign > '9') {
                    return number;
                }
                number = Math.max(number, 0) * 10 + sign - '0';
                place++;
            }
            return number;
        }

        /** Reads a sign of a span; returns which one it is, from 0, or NONE. */
        private int readFrom(int lowest, int highest) {
            int sign = peek();
            if (sign < lowest || sign > highest) {
                return NONE;
            }
            place++;
            return sign - lowest;
        }

        private boolean readAct(Order order, boolean inside) {
            int sign = peek();
            order.act = sign;
            if (inside && (order.holdsOthers() || order.steers()) || sign == ':' && order.where != WITHOUT) {
                return false;
            }
            switch (sign) {
                case 'a': case 'i': case 'c':
                    place++;
                    return readRows(order);
                case 'd': case 'j': case 'l': case 'p': case '=': case 'n': case 'h': case 'H':
                case 'u': case 'e': case 'q': case 'N': case '{':
                    place++;
                    return true;
                case 'v': case '>': case '<': case 'o': case 'O':
                    place++;
                    order.number = readNumber();
                    return order.number != NONE;
                case 'm': case 't':
                    place++;
                    return readAddress(order.target);
                case 'k':
                    place++;
                    order.number = readFrom('a', 'e');
                    return order.number != NONE;
                case 'r': case 'w':
                    place++;
                    order.number = readFrom('0', '3');
                    return order.number != NONE;
                case ':': case 'b': case 'T':
                    place++;
                    order.number = readFrom('A', 'Z');
                    return order.number != NONE || sign != ':';
                case 's':
                    place++;
                    return readReplace(order);
                case 'z':
                    place++;
                    return readTurn(order);
                case 'g': case 'G':
                    place++;
                    return readPatternOf(order);
                default:
                    return false;
            }
        }

        private boolean readRows(Order order) {
            order.from = place;
            int length = 0;
            for (int step = 0; step <= MOST_SIGNS; step++) {
                int sign = peek();
                boolean divides = sign == '|';
                if (!divides && bitOf(sign) == 0) {
                    break;
                }
                if (!divides && length >= WIDTH) {
                    return false;
                }
                length = divides ? 0 : length + 1;
                place++;
            }
            order.to = place;
            return true;
        }

        private boolean readPatternOf(Order order) {
            if (!pass('/')) {
                return false;
            }
            order.pattern = readPattern();
            return order.pattern != NONE && pass('/');
        }

        private boolean readReplace(Order order) {
            if (!pass('/')) {
                return false;
            }
            order.pattern = readPattern();
            if (order.pattern == NONE || !pass('/')) {
                return false;
            }
            order.from = place;
            for (int step = 0; step <= MOST_SIGNS; step++) {
                int sign = peek();
                if (sign == '\\' && groups > 0) {
                    place++;
                    if (readFrom('1', '0' + groups) == NONE) {
                        return false;
                    }
                } else if (sign == '&' || bitOf(sign) != 0) {
                    place++;
                } else {
                    break;
                }
            }
            order.to = place;
            if (!pass('/')) {
                return false;
            }
            // The number 0 stands for each find.
            order.number = pass('g') ? 0 : readFindNumber();
            return true;
        }

        private int readFindNumber() {
            int digit = readFrom('1', '9');
            return digit == NONE ? 1 : digit + 1;
        }

        private boolean readTurn(Order order) {
            if (!pass('/')) {
                return false;
            }
            order.from = place;
            for (int step = 0; step <= MOST_SIGNS && bitOf(peek()) != 0; step++) {
                place++;
            }
            order.number = place - order.from;
            if (order.number == 0 || !pass('/')) {
                return false;
            }
            order.to = place;
            for (int step = 0; step < order.number; step++) {
                if (bitOf(peek()) == 0) {
                    return false;
                }
                place++;
            }
            return pass('/');
        }

        /** Reads a pattern; returns its first element, or NONE at a fault. */
        private int readPattern() {
            int began = place;
            int start = elements;
            int items = 0;
            int plains = 0;
            boolean inGroup = false;
            stars = 0;
            groups = 0;
            if (pass('^')) {
                addElement(HEAD, 0);
            }
            for (int step = 0; step <= MOST_SIGNS; step++) {
                int sign = peek();
                if (inGroup && sign == ')') {
                    place++;
                    inGroup = false;
                    addElement(CLOSE, groups);
                } else if ((inGroup ? plains : items) >= MOST_ITEMS) {
                    break;
                } else if (!inGroup && sign == '(' && groups < MOST_GROUPS) {
                    place++;
                    inGroup = true;
                    groups++;
                    items++;
                    plains = 0;
                    addElement(OPEN, groups);
                } else if (!inGroup && sign == '\\' && groups > 0) {
                    place++;
                    items++;
                    int group = readFrom('1', '0' + groups);
                    if (group == NONE) {
                        return NONE;
                    }
                    addElement(AGAIN, group + 1);
                } else if (!beginsPlain(sign)) {
                    break;
                } else if (!readPlain()) {
                    return NONE;
                } else if (inGroup) {
                    plains++;
                } else {
                    items++;
                }
            }
            if (inGroup) {
                return NONE;
            }
            if (pass('$')) {
                addElement(TAIL, 0);
            }
            if (place == began) {
                return NONE;
            }
            addElement(END, 0);
            return start;
        }

        private boolean beginsPlain(int sign) {
            return sign == '.' || sign == '[' || sign == '*' && stars < MOST_STARS || bitOf(sign) != 0;
        }

        private boolean readPlain() {
            int sign = peek();
            place++;
            if (sign == '*') {
                stars++;
                addElement(STAR, 0);
                return true;
            }
            if (sign != '[') {
                addElement(SIGN, sign == '.' ? ALL_SIGNS : bitOf(sign));
                return true;
            }
            boolean others = pass('^');
            long among = 0;
            for (int step = 0; step <= MOST_SIGNS && bitOf(peek()) != 0; step++) {
                among |= bitOf(peek());
                place++;
            }
            if (among == 0 || !pass(']')) {
                return false;
            }
            addElement(SIGN, others ? ALL_SIGNS & ~among : among);
            return true;
        }

        private void addElement(int kind, long value) {
            if (elements >= 0 && elements < kinds.length && elements < values.length) {
                kinds[elements] = kind;
                values[elements] = value;
                elements++;
            }
        }

        /** The place of the order behind the first one that is labelled so; NONE if there is none. */
        private int placeBehind(int label) {
            for (int index = 0; index < count; index++) {
                Order order = orderAt(index);
                if (order != null && order.act == ':' && order.number == label) {
                    return index + 1;
                }
            }
            return NONE;
        }

        private void rowsOf(Order order, Rows rows) {
            rows.shrink(0);
            int from = order.from;
            for (int at = order.from; at <= order.to && at <= MOST_SIGNS; at++) {
                if (at == order.to || signAt(at) == '|') {
                    rows.add(signs, from, at - from);
                    from = at + 1;
                }
            }
        }
    }

    /** Finds patterns in rows. */
    private static final class Matcher {
        private final Program program;
        private final byte[] row;
        private final long[] bits;
        private final int[] opens;
        private final int[] closes;
        private int size;
        private int start;
        private int end;

        private Matcher(Program program) {
            this.program = program;
            row = new byte[WIDTH];
            bits = new long[WIDTH];
            opens = new int[MOST_GROUPS + 1];
            closes = new int[MOST_GROUPS + 1];
        }

        private void load(Rows rows, int number) {
            size = 0;
            int length = Math.min(rows.lengthOf(number), WIDTH);
            for (int place = 0; place < length && place < row.length && place < bits.length; place++) {
                int sign = rows.signAt(number, place);
                row[place] = (byte) sign;
                bits[place] = bitOf(sign);
                size = place + 1;
            }
        }

        private boolean holds(Rows rows, int number, int pattern) {
            load(rows, number);
            return search(pattern, 0, false);
        }

        /** Searches the loaded row from a place on; onward, a match there without characters does not count. */
        private boolean search(int pattern, int from, boolean onward) {
            for (int place = from; place <= size; place++) {
                int ended = fits(pattern, place, 0);
                if (ended != NONE && !(onward && place == from && ended == from)) {
                    start = place;
                    end = ended;
                    return true;
                }
            }
            return false;
        }

        /** Where a match ends whose elements from one on fit from a place on; NONE if there is none. */
        private int fits(int element, int place, int depth) {
            int at = place;
            if (depth > MOST_STARS || element < 0 || at < 0 || size > row.length || size > bits.length) {
                return NONE;
            }
            int most = Math.min(program.elements, Math.min(program.kinds.length, program.values.length));
            for (int step = element; step < most; step++) {
                long value = program.values[step];
                int group = value >= 1 && value <= MOST_GROUPS ? (int) value : 0;
                switch (program.kinds[step]) {
                    case SIGN:
                        if (at >= size || (bits[at] & value) == 0) {
                            return NONE;
                        }
                        at++;
                        break;
                    case STAR:
                        // The most characters come first, and the first star ahead of the second.
                        for (int far = size; far >= at; far--) {
                            int ended = fits(step + 1, far, depth + 1);
                            if (ended != NONE) {
                                return ended;
                            }
                        }
                        return NONE;
                    case OPEN:
                        opens[group] = at;
                        break;
                    case CLOSE:
                        closes[group] = at;
                        break;
                    case AGAIN:
                        for (int from = opens[group]; from < closes[group]; from++) {
                            if (at >= size || from < 0 || from >= size || row[from] != row[at]) {
                                return NONE;
                            }
                            at++;
                        }
                        break;
                    case HEAD:
                        if (at != 0) {
                            return NONE;
                        }
                        break;
                    case TAIL:
                        if (at != size) {
                            return NONE;
                        }
                        break;
                    default:
                        return at;
                }
            }
            return NONE;
        }

        /** The next line behind the present one, or the nearest one ahead of it, that holds the pattern. */
        private int lineWith(Text text, int pattern, boolean back) {
            int line = text.now;
            for (int left = text.rows.count; left > 0; left--) {
                line += back ? -1 : 1;
                if (line > text.rows.count) {
                    line = 1;
                } else if (line < 1) {
                    line = text.rows.count;
                }
                load(text.rows, line);
                if (search(pattern, 0, false)) {
                    return line;
                }
            }
            return NONE;
        }
    }

    /** Changes rows one by one, by s, z, > and <. */
    private static final class Changer {
        private final Program program;
        private final Matcher matcher;
        private final byte[] built;
        private int size;
        private boolean tooLong;
        private boolean replaced;

        private Changer(Program program, Matcher matcher) {
            this.program = program;
            this.matcher = matcher;
            built = new byte[WIDTH];
        }

        private int change(Order order, Rows rows, int from, int to) {
            for (int row = from; row <= to; row++) {
                size = 0;
                tooLong = false;
                matcher.load(rows, row);
                switch (order.act) {
                    case 's':
                        replace(order);
                        break;
                    case 'z':
                        turn(order);
                        break;
                    case '>':
                        shiftBehind(order.number);
                        break;
                    default:
                        shiftAhead(order.number);
                        break;
                }
                if (tooLong) {
                    return TOO_MUCH;
                }
                rows.write(row, built, 0, size);
            }
            return DONE;
        }

        private void append(int sign) {
            if (size >= 0 && size < built.length) {
                built[size] = (byte) sign;
                size++;
            } else {
                tooLong = true;
            }
        }

        private void appendRow(int from, int to) {
            int more = to - from;
            if (from < 0 || more < 0 || to > matcher.row.length) {
                return;
            }
            if (size < 0 || more > built.length - size) {
                tooLong = true;
                return;
            }
            System.arraycopy(matcher.row, from, built, size, more);
            size += more;
        }

        private void replace(Order order) {
            int copied = 0;
            boolean onward = false;
            for (int find = 1; find <= WIDTH + 1; find++) {
                if (!matcher.search(order.pattern, onward ? matcher.end : 0, onward)) {
                    break;
                }
                onward = true;
                if (order.number == 0 || order.number == find) {
                    appendRow(copied, matcher.start);
                    appendPut(order);
                    copied = matcher.end;
                    replaced = true;
                }
                if (order.number == find) {
                    break;
                }
            }
            appendRow(copied, matcher.size);
        }

        private void appendPut(Order order) {
            for (int place = order.from; place < order.to; place++) {
                int sign = program.signAt(place);
                if (sign == '&') {
                    appendRow(matcher.start, matcher.end);
                } else if (sign == '\\') {
                    place++;
                    int group = program.signAt(place) - '0';
                    if (group >= 1 && group <= MOST_GROUPS) {
                        appendRow(matcher.opens[group], matcher.closes[group]);
                    }
                } else {
                    append(sign);
                }
            }
        }

        private void turn(Order order) {
            for (int place = 0; place < matcher.size && place < matcher.row.length; place++) {
                int sign = matcher.row[place];
                int turned = sign;
                for (int pair = order.number - 1; pair >= 0; pair--) {
                    if (program.signAt(order.from + pair) == sign) {
                        turned = program.signAt(order.to + pair);
                    }
                }
                append(turned);
            }
        }

        private void shiftBehind(int blanks) {
            for (int blank = 0; blank < blanks; blank++) {
                append(' ');
            }
            appendRow(0, matcher.size);
        }

        private void shiftAhead(int blanks) {
            int from = 0;
            for (int blank = 0; blank < blanks && blank < matcher.size && blank < matcher.row.length; blank++) {
                if (matcher.row[blank] != ' ') {
                    break;
                }
                from++;
            }
            appendRow(from, matcher.size);
        }
    }

    /** Does the orders of the program over the whole text. */
    private static final class Whole {
        private final Program program;
        private final Text text;
        private final Stores stores;
        private final Stores before;
        private final Matcher matcher;
        private final Changer changer;
        private final History history;
        private final Rows fresh;
        private final Text spare;
        private final int[] numbers;
        private final int[] met;
        private int metCount;
        private int first;
        private int last;
        private int after;
        private int come;
        private int reason;

        private Whole(Program program, Text text, Stores stores, Stores before,
                Matcher matcher, Changer changer, History history) {
            this.program = program;
            this.text = text;
            this.stores = stores;
            this.before = before;
            this.matcher = matcher;
            this.changer = changer;
            this.history = history;
            fresh = new Rows(MOST_SIGNS);
            spare = new Text();
            numbers = new int[MOST_LINES];
            met = new int[MOST_LINES];
        }

        /** Returns how many orders were come to and not refused. */
        private int perform(int call) {
            come = 0;
            reason = DONE;
            changer.replaced = false;
            int done = 0;
            int place = 0;
            for (int step = 0; step <= MOST_WHOLE; step++) {
                Order order = program.orderAt(place);
                if (order == null) {
                    break;
                }
                history.note(text);
                after = order.next;
                come++;
                reason = come > MOST_WHOLE ? TOO_MANY_ORDERS : findRange(order);
                if (reason == DONE && order.steers()) {
                    reason = steer(order);
                } else if (reason == DONE && order.holdsOthers()) {
                    reason = doGroup(order, place);
                } else if (reason == DONE) {
                    reason = doOne(order);
                }
                if (reason != DONE) {
                    history.restore(text);
                    break;
                }
                if (order.isDeed()) {
                    history.store(call);
                }
                done++;
                place = after;
            }
            return done;
        }

        /** Finds the first and the last line of an order. */
        private int findRange(Order order) {
            int lines = text.rows.count;
            boolean all = order.where == ALL || order.where == WITHOUT && order.takesAll();
            if (order.where == WITHOUT && order.steers()) {
                return DONE;
            }
            first = text.now;
            last = text.now;
            if (all) {
                first = 1;
                last = lines;
                return lines > 0 || order.takesAll() ? DONE : NO_LINE;
            }
            if (order.where == ONE || order.where == TWO) {
                first = locate(order.first);
                last = order.where == TWO && first >= 0 ? locate(order.second) : first;
            }
            if (first < 0 || last < 0) {
                return -Math.min(first, last);
            }
            return first > last || first == 0 && !order.mayStandBehindNone() ? NO_LINE : DONE;
        }

        /** The line that an address tells; below 0 the reason, taken away from 0, why it is refused. */
        private int locate(Address address) {
            int line = text.now;
            if (address.kind == '0') {
                line = address.value;
            } else if (address.kind == '$') {
                line = text.rows.count;
            } else if (address.kind == '\'') {
                line = text.markedLine(address.value);
                if (line == NONE) {
                    return -NO_MARK;
                }
            } else if (address.kind == '/' || address.kind == '?') {
                line = matcher.lineWith(text, address.value, address.kind == '?');
                if (line == NONE) {
                    return -NOT_FOUND;
                }
            }
            line += address.shift;
            return line < 0 || line > text.rows.count ? -NO_LINE : line;
        }

        private int steer(Order order) {
            if (order.where != WITHOUT && (text.now < first || text.now > last)) {
                return DONE;
            }
            if (order.act == 'N') {
                if (text.now >= text.rows.count) {
                    return NO_LINE;
                }
                text.now++;
                return DONE;
            }
            if (order.act == ':' || order.act == 'T' && !changer.replaced) {
                return DONE;
            }
            after = program.count;
            if (order.act == 'q' || order.number == NONE) {
                return DONE;
            }
            after = program.placeBehind(order.number);
            if (order.act == 'T') {
                changer.replaced = false;
            }
            return after == NONE ? NO_LABEL : DONE;
        }

        private int doGroup(Order order, int place) {
            meet(order);
            before.copy(stores);
            for (int i = 0; i < metCount && i < met.length; i++) {
                int line = text.numberOf(met[i]);
                if (line == NONE) {
                    continue;
                }
                text.now = line;
                for (int index = place + 1; index < order.next; index++) {
                    Order inner = program.orderAt(index);
                    if (inner == null) {
                        break;
                    }
                    come++;
                    int refused = come > MOST_WHOLE ? TOO_MANY_ORDERS : findRange(inner);
                    if (refused == DONE) {
                        refused = doOne(inner);
                    }
                    if (refused != DONE) {
                        stores.copy(before);
                        return refused;
                    }
                }
            }
            return DONE;
        }

        /** Notes which lines are met, by their ids, as the orders may move them. */
        private void meet(Order order) {
            metCount = 0;
            for (int line = first; line <= last; line++) {
                boolean isMet = order.act == '{'
                    || matcher.holds(text.rows, line, order.pattern) == (order.act == 'g');
                if (isMet && metCount < met.length) {
                    met[metCount] = text.idOf(line);
                    metCount++;
                }
            }
        }

        private int doOne(Order order) {
            switch (order.act) {
                case 's': case 'z': case '>': case '<':
                    int refused = changer.change(order, text.rows, first, last);
                    text.now = last;
                    return refused;
                case 'a': case 'i': case 'c':
                    program.rowsOf(order, fresh);
                    return bring(order.act, fresh);
                case 'u':
                    return stores.held.count == 0 ? NOT_HELD : bring('u', stores.held);
                case 'r':
                    return readFile(stores.file(order.number));
                case 'e':
                    return exchange();
                case 'd':
                    text.cut(first, last - first + 1);
                    text.now = Math.min(first, text.rows.count);
                    return DONE;
                case 'j':
                    return join();
                case 'v':
                    return part(order.number);
                case 'l':
                    return leaveOutSame();
                case 'm':
                    return move(locate(order.target));
                case 't':
                    return copyLines(locate(order.target));
                case 'o': case 'O':
                    return sort(order.number, order.act == 'O');
                default:
                    return tell(order);
            }
        }

        /** Makes rows new lines: ahead of the range, in its place, or behind it. */
        private int bring(int act, Rows rows) {
            boolean goes = act == 'c' || act == 'e';
            int gone = goes ? last - first + 1 : 0;
            if (text.rows.count - gone + rows.count > MOST_LINES) {
                return TOO_MUCH;
            }
            int at = goes || act == 'i' ? first : last + 1;
            text.cut(first, gone);
            text.open(at, rows.count);
            for (int row = 1; row <= rows.count; row++) {
                text.rows.take(at + row - 1, rows, row);
            }
            text.now = at + rows.count - 1;
            return DONE;
        }

        private int readFile(Rows rows) {
            return rows == null || rows.count == 0 ? DONE : bring('r', rows);
        }

        private int exchange() {
            if (stores.held.count == 0) {
                return NOT_HELD;
            }
            fresh.copy(stores.held);
            spare.copy(text);
            int refused = bring('e', fresh);
            if (refused == DONE) {
                stores.hold(spare.rows, first, last);
            }
            return refused;
        }

        private int join() {
            int end = first == last ? last + 1 : last;
            if (end > text.rows.count) {
                return NO_LINE;
            }
            for (int line = first + 1; line <= end; line++) {
                if (!text.rows.extend(first, text.rows, line)) {
                    return TOO_MUCH;
                }
            }
            text.cut(first + 1, end - first);
            text.now = first;
            return DONE;
        }

        private int part(int size) {
            int line = first;
            for (int left = last - first + 1; left > 0; left--) {
                if (text.rows.lengthOf(line) > size) {
                    if (!text.open(line + 1, 1)) {
                        return TOO_MUCH;
                    }
                    text.rows.moveRest(line, size);
                    line++;
                }
                line++;
            }
            text.now = line - 1;
            return DONE;
        }

        private int leaveOutSame() {
            int line = first + 1;
            for (int left = last - first; left > 0; left--) {
                if (text.rows.same(line, text.rows, line - 1)) {
                    text.cut(line, 1);
                } else {
                    line++;
                }
            }
            text.now = line - 1;
            return DONE;
        }

        private int move(int target) {
            if (target < 0) {
                return -target;
            }
            if (target >= first && target < last) {
                return NO_LINE;
            }
            int many = last - first + 1;
            int at = target < first ? target + 1 : target - many + 1;
            int filled = lineUp(0, 1, Math.min(target, first - 1));
            if (target < first) {
                filled = lineUp(filled, first, last);
                filled = lineUp(filled, target + 1, first - 1);
            } else {
                filled = lineUp(filled, last + 1, target);
                filled = lineUp(filled, first, last);
            }
            lineUp(filled, Math.max(target, last) + 1, text.rows.count);
            text.arrange(numbers, spare);
            text.now = at + many - 1;
            return DONE;
        }

        /** Notes old numbers of lines behind those that are noted; returns how many are noted then. */
        private int lineUp(int filled, int from, int to) {
            int next = filled;
            for (int line = from; line <= to && next >= 0 && next < numbers.length; line++) {
                numbers[next] = line;
                next++;
            }
            return next;
        }

        private int copyLines(int target) {
            if (target < 0) {
                return -target;
            }
            int many = last - first + 1;
            spare.copy(text);
            if (!text.open(target + 1, many)) {
                return TOO_MUCH;
            }
            for (int line = 1; line <= many; line++) {
                text.rows.take(target + line, spare.rows, first + line - 1);
            }
            text.now = target + many;
            return DONE;
        }

        /** Sorts by putting line by line into its place, so that alike ones stay in their order. */
        private int sort(int place, boolean falling) {
            lineUp(0, 1, text.rows.count);
            for (int line = first + 1; line <= last && line <= numbers.length; line++) {
                for (int at = line; at > first && at > 1; at--) {
                    int lower = numbers[at - 1];
                    int upper = numbers[at - 2];
                    int compared = text.rows.compareFrom(place, upper, lower);
                    if (falling ? compared >= 0 : compared <= 0) {
                        break;
                    }
                    numbers[at - 1] = upper;
                    numbers[at - 2] = lower;
                }
            }
            text.arrange(numbers, spare);
            text.now = last;
            return DONE;
        }

        /** Does the orders that leave all lines as they are. */
        private int tell(Order order) {
            int refused = DONE;
            switch (order.act) {
                case 'p':
                    refused = stores.print(text.rows, first, last, NONE);
                    break;
                case 'n':
                    refused = stores.print(text.rows, first, last, first);
                    break;
                case '=':
                    return stores.printNumber(last);
                case 'h':
                    stores.hold(text.rows, first, last);
                    break;
                case 'H':
                    refused = stores.holdMore(text.rows, first, last);
                    break;
                case 'k':
                    text.setMark(order.number, text.idOf(last));
                    return DONE;
                case 'w':
                    return writeFile(stores.file(order.number));
                default:
                    return DONE;
            }
            text.now = last;
            return refused;
        }

        private int writeFile(Rows rows) {
            if (rows == null) {
                return DONE;
            }
            rows.shrink(0);
            for (int line = first; line <= last; line++) {
                rows.addRow(text.rows, line);
            }
            return DONE;
        }
    }

    /** Plays the program line by line: lines are taken from the text, and a new text is begun. */
    private static final class ByLine {
        private final Program program;
        private final Text text;
        private final Stores stores;
        private final Stores before;
        private final Matcher matcher;
        private final Changer changer;
        private final Text fresh;
        private final Rows work;
        private final Rows due;
        private final Rows spare;
        private int workId;
        private int number;
        private int taken;
        private int serial;
        private int come;
        private int reason;
        private boolean gone;
        private boolean going;
        private boolean leaving;
        private boolean ending;

        private ByLine(Program program, Text text, Stores stores, Stores before,
                Matcher matcher, Changer changer) {
            this.program = program;
            this.text = text;
            this.stores = stores;
            this.before = before;
            this.matcher = matcher;
            this.changer = changer;
            fresh = new Text();
            work = new Rows(1);
            // With one row more than a text may have it is certain that they are refused as they are put.
            due = new Rows(MOST_LINES + 1);
            spare = new Rows(MOST_SIGNS);
        }

        /** Returns how many orders were come to; NONE if one was refused. */
        private int perform() {
            begin();
            takeNext();
            int place = 0;
            for (int step = 0; step <= MOST_BY_LINE + MOST_LINES && going && reason == DONE; step++) {
                if (!leaving && place >= 0 && place < program.count) {
                    place = doOrder(place);
                    continue;
                }
                finishWork();
                if (ending) {
                    putRest();
                    break;
                }
                takeNext();
                place = leaving ? place : 0;
                leaving = false;
            }
            if (reason != DONE) {
                stores.copy(before);
                return NONE;
            }
            fresh.now = fresh.rows.count;
            text.copy(fresh);
            text.nextId = fresh.nextId;
            return come;
        }

        private void begin() {
            before.copy(stores);
            fresh.copy(text);
            fresh.rows.shrink(0);
            fresh.nextId = text.nextId;
            taken = 0;
            serial = 0;
            come = 0;
            reason = DONE;
            leaving = false;
            ending = false;
            for (int index = 0; index < program.count; index++) {
                Order order = program.orderAt(index);
                Rows rows = order == null || order.act != 'w' ? null : stores.file(order.number);
                if (rows != null) {
                    rows.shrink(0);
                }
            }
        }

        private void takeNext() {
            going = taken < text.rows.count;
            if (!going) {
                return;
            }
            taken++;
            serial++;
            number = taken;
            workId = text.idOf(taken);
            work.shrink(0);
            work.addRow(text.rows, taken);
            due.shrink(0);
            gone = false;
            changer.replaced = false;
        }

        private void finishWork() {
            if (!gone && !fresh.append(work, 1, workId)) {
                reason = TOO_MUCH;
                return;
            }
            putNew(due);
        }

        private void putNew(Rows rows) {
            for (int row = 1; row <= rows.count; row++) {
                if (!fresh.append(rows, row, fresh.nextId)) {
                    reason = TOO_MUCH;
                    return;
                }
                fresh.nextId++;
            }
        }

        /** Does an order if its where holds; returns the place of the next one. */
        private int doOrder(int place) {
            Order order = program.orderAt(place);
            if (order == null) {
                return program.count;
            }
            come++;
            if (come > MOST_BY_LINE || order.isNotByLine()) {
                reason = come > MOST_BY_LINE ? TOO_MANY_ORDERS : NOT_BY_LINE;
                return place;
            }
            if (!holds(order)) {
                return order.next;
            }
            if (order.holdsOthers()) {
                boolean enters = order.act == '{'
                    || matcher.holds(work, 1, order.pattern) == (order.act == 'g');
                return enters ? place + 1 : order.next;
            }
            if (order.steers()) {
                return steer(order);
            }
            doOne(order);
            return gone ? program.count : order.next;
        }

        private boolean holds(Order order) {
            if (order.where == WITHOUT || order.where == ALL) {
                return true;
            }
            if (order.where == ONE) {
                return holdsAt(order.first);
            }
            if (order.looked == serial) {
                return order.found;
            }
            order.looked = serial;
            boolean toNumber = order.second.isNumber();
            int end = numberOf(order.second);
            if (order.running && !(toNumber && number > end)) {
                order.found = true;
                order.over = toNumber ? number == end : holdsAt(order.second);
            } else {
                order.found = holdsAt(order.first);
                order.over = toNumber && number >= end;
            }
            order.running = order.found && !order.over;
            return order.found;
        }

        private int numberOf(Address address) {
            return (address.kind == '$' ? text.rows.count : address.value) + address.shift;
        }

        private boolean holdsAt(Address address) {
            switch (address.kind) {
                case '0': case '$':
                    return number == numberOf(address);
                case '\'':
                    return fresh.markedId(address.value) == workId;
                case '/': case '?':
                    return matcher.holds(work, 1, address.value);
                default:
                    return true;
            }
        }

        private int steer(Order order) {
            if (order.act == 'q') {
                ending = true;
                return program.count;
            }
            if (order.act == 'N') {
                leaving = true;
                return order.next;
            }
            if (order.act == ':' || order.act == 'T' && !changer.replaced) {
                return order.next;
            }
            if (order.number == NONE) {
                return program.count;
            }
            int place = program.placeBehind(order.number);
            if (place == NONE) {
                reason = NO_LABEL;
            }
            if (order.act == 'T') {
                changer.replaced = false;
            }
            return place;
        }

        private void putRest() {
            for (int line = taken + 1; line <= text.rows.count && reason == DONE; line++) {
                if (!fresh.append(text.rows, line, text.idOf(line))) {
                    reason = TOO_MUCH;
                }
            }
        }

        private void doOne(Order order) {
            switch (order.act) {
                case 's': case 'z': case '>': case '<':
                    reason = changer.change(order, work, 1, 1);
                    break;
                case 'a':
                    program.rowsOf(order, spare);
                    putDue(spare);
                    break;
                case 'i':
                    program.rowsOf(order, spare);
                    putNew(spare);
                    break;
                case 'c':
                    goAway();
                    program.rowsOf(order, spare);
                    if (order.where != TWO || order.over) {
                        putNew(spare);
                    }
                    break;
                case 'd':
                    goAway();
                    break;
                case 'v':
                    part(order.number);
                    break;
                case 'j':
                    join();
                    break;
                case 'u':
                    reason = stores.held.count == 0 ? NOT_HELD : DONE;
                    putDue(stores.held);
                    break;
                case 'r':
                    putDue(stores.file(order.number));
                    break;
                case 'e':
                    exchange();
                    break;
                default:
                    tell(order);
                    break;
            }
        }

        private void goAway() {
            gone = true;
            fresh.dropMarks(workId);
        }

        private void putDue(Rows rows) {
            for (int row = 1; rows != null && row <= rows.count; row++) {
                due.addRow(rows, row);
            }
        }

        private void part(int size) {
            if (work.lengthOf(1) <= size) {
                return;
            }
            spare.shrink(0);
            spare.addRow(work, 1);
            spare.open(2, 1);
            spare.moveRest(1, size);
            due.addRow(spare, 2);
            work.cutTo(1, size);
        }

        private void join() {
            if (taken >= text.rows.count) {
                return;
            }
            if (!work.extend(1, text.rows, taken + 1)) {
                reason = TOO_MUCH;
                return;
            }
            taken++;
            number = taken;
            fresh.dropMarks(text.idOf(taken));
        }

        private void exchange() {
            if (stores.held.count != 1) {
                reason = NOT_HELD;
                return;
            }
            spare.copy(work);
            work.take(1, stores.held, 1);
            stores.held.take(1, spare, 1);
        }

        private void tell(Order order) {
            switch (order.act) {
                case 'p':
                    reason = stores.print(work, 1, 1, NONE);
                    break;
                case 'n':
                    reason = stores.print(work, 1, 1, number);
                    break;
                case '=':
                    reason = stores.printNumber(number);
                    break;
                case 'h':
                    stores.hold(work, 1, 1);
                    break;
                case 'H':
                    reason = stores.holdMore(work, 1, 1);
                    break;
                case 'k':
                    fresh.setMark(order.number, workId);
                    break;
                default:
                    writeFile(stores.file(order.number));
                    break;
            }
        }

        private void writeFile(Rows rows) {
            if (rows != null && !rows.addRow(work, 1)) {
                reason = TOO_MUCH;
            }
        }
    }

    /** The texts as they were ahead of the deeds that are kept; one more place notes what may become a deed. */
    private static final class History {
        private final Text[] texts;
        private final int[] callNumbers;
        private int begin;
        private int kept;
        private int notedId;

        private History() {
            texts = new Text[MOST_DEEDS + 1];
            callNumbers = new int[MOST_DEEDS + 1];
            for (int deed = 0; deed <= MOST_DEEDS; deed++) {
                texts[deed] = new Text();
            }
        }

        private int slotOf(int deed) {
            return Math.floorMod(begin + deed, MOST_DEEDS + 1);
        }

        private Text slot(int deed) {
            int index = slotOf(deed);
            return index >= 0 && index < texts.length ? texts[index] : null;
        }

        private void note(Text text) {
            Text slot = slot(kept);
            if (slot != null) {
                slot.copy(text);
            }
            notedId = text.nextId;
        }

        /** Lets the text be as it was noted, as if it had given no ids since then. */
        private void restore(Text text) {
            Text slot = slot(kept);
            if (slot != null) {
                text.copy(slot);
            }
            text.nextId = notedId;
        }

        /** Keeps what was noted as the latest deed. */
        private void store(int call) {
            int index = slotOf(kept);
            if (index >= 0 && index < callNumbers.length) {
                callNumbers[index] = call;
            }
            if (kept < MOST_DEEDS) {
                kept++;
            } else {
                begin = slotOf(1);
            }
        }

        private int latestCall() {
            int index = slotOf(kept - 1);
            return kept > 0 && index >= 0 && index < callNumbers.length ? callNumbers[index] : NONE;
        }

        private void takeBack(Text text) {
            if (kept <= 0) {
                return;
            }
            kept--;
            Text slot = slot(kept);
            if (slot != null) {
                text.copy(slot);
            }
        }
    }
}
