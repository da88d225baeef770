import java.util.ArrayList;
import java.util.List;

/**
 * The document once more, in the plainest form, with lists and texts of the Java library: the class is held against
 * it. Nothing is shared with the class, and nothing is fast.
 */
final class Model {
    /** An order that is refused. */
    static final class Refused extends RuntimeException {
        private static final long serialVersionUID = 1;
        final int why;

        Refused(int why) {
            this.why = why;
        }
    }

    /** The work goes, or the orders end for it. */
    static final class WorkEnds extends RuntimeException {
        private static final long serialVersionUID = 1;
    }

    /** A line that is there, or was there. */
    static final class Line {
        final int id;
        String row;

        Line(int id, String row) {
            this.id = id;
            this.row = row;
        }
    }

    /** The text as it was ahead of a deed. */
    static final class Deed {
        final List<Line> lines;
        final List<String> rows = new ArrayList<>();
        final Line[] marks;
        final int now;
        final int call;

        Deed(Model model, int call) {
            lines = new ArrayList<>(model.lines);
            for (Line line : lines) {
                rows.add(line.row);
            }
            marks = model.marks.clone();
            now = model.now;
            this.call = call;
        }

        void back(Model model) {
            model.lines = new ArrayList<>(lines);
            for (int i = 0; i < lines.size(); i++) {
                lines.get(i).row = rows.get(i);
            }
            model.marks = marks.clone();
            model.now = now;
        }
    }

    String tape = "";
    String[] scripts = new String[4];
    List<Line> lines = new ArrayList<>();
    Line[] marks = new Line[5];
    int now;
    int nextId;
    List<String> held = new ArrayList<>();
    List<String> out = new ArrayList<>();
    List<List<String>> files = new ArrayList<>();
    List<Deed> deeds = new ArrayList<>();
    int reason;
    int calls;

    private int come;
    private boolean replaced;

    Model() {
        for (int i = 0; i < 4; i++) {
            files.add(new ArrayList<>());
        }
    }

    // ---- orders over the whole

    int runTape() {
        return over(Reading.orders(tape));
    }

    int playScript(int script) {
        return over(Reading.orders(scripts[script]));
    }

    private int over(List<Reading.Order> orders) {
        calls++;
        come = 0;
        replaced = false;
        reason = 0;
        int done = 0;
        int i = 0;
        while (i < orders.size()) {
            Reading.Order o = orders.get(i);
            Deed ahead = new Deed(this, calls);
            List<String> heldAhead = new ArrayList<>(held);
            List<String> outAhead = new ArrayList<>(out);
            List<List<String>> filesAhead = new ArrayList<>();
            for (List<String> file : files) {
                filesAhead.add(new ArrayList<>(file));
            }
            int idAhead = nextId;
            int next;
            try {
                next = doTop(o, i, orders);
            } catch (Refused e) {
                reason = e.why;
                ahead.back(this);
                held = heldAhead;
                out = outAhead;
                files = filesAhead;
                nextId = idAhead;
                return done;
            }
            if (":bTq".indexOf(o.act) < 0) {
                addDeed(ahead);
            }
            done++;
            i = next;
        }
        return done;
    }

    void addDeed(Deed deed) {
        deeds.add(deed);
        if (deeds.size() > 40) {
            deeds.remove(0);
        }
    }

    private void countOne() {
        come++;
        if (come == 61) {
            throw new Refused(7);
        }
    }

    private int doTop(Reading.Order o, int i, List<Reading.Order> orders) {
        countOne();
        if (":bTqN".indexOf(o.act) >= 0) {
            if (o.where != 0) {
                int[] range = range(o);
                if (now < range[0] || now > range[1]) {
                    return i + 1;
                }
            }
            if (o.act == 'N') {
                if (now + 1 > lines.size()) {
                    throw new Refused(1);
                }
                now++;
                return i + 1;
            }
            if (o.act == ':') {
                return i + 1;
            }
            if (o.act == 'q') {
                return orders.size();
            }
            if (o.act == 'T' && !replaced) {
                return i + 1;
            }
            if (o.label == 0) {
                return orders.size();
            }
            int target = labelled(orders, o.label);
            if (o.act == 'T') {
                replaced = false;
            }
            return target;
        }
        int[] range = range(o);
        if (o.inner == null) {
            one(o, range);
            return i + 1;
        }
        List<Line> met = new ArrayList<>();
        for (int n = range[0]; n <= range[1]; n++) {
            Line line = lines.get(n - 1);
            boolean has = o.act == '{' || o.pattern.find(line.row) != null;
            if (has == (o.act != 'G') || o.act == '{') {
                met.add(line);
            }
        }
        for (Line line : met) {
            if (lines.contains(line)) {
                now = lines.indexOf(line) + 1;
                for (Reading.Order inner : o.inner) {
                    countOne();
                    one(inner, range(inner));
                }
            }
        }
        return i + 1;
    }

    private static int labelled(List<Reading.Order> orders, char label) {
        for (int i = 0; i < orders.size(); i++) {
            if (orders.get(i).act == ':' && orders.get(i).label == label) {
                return i + 1;
            }
        }
        throw new Refused(6);
    }

    private int[] range(Reading.Order o) {
        boolean whole = o.where == 1 || o.where == 0 && "gGw".indexOf(o.act) >= 0;
        if (whole && lines.isEmpty()) {
            if ("gGw".indexOf(o.act) >= 0) {
                return new int[] {1, 0};
            }
            throw new Refused(1);
        }
        if (whole) {
            return new int[] {1, lines.size()};
        }
        int f = o.where == 0 ? now : spot(o.first);
        int l = o.where == 3 ? spot(o.second) : f;
        if (f > l) {
            throw new Refused(1);
        }
        if (f == 0 && ("aru".indexOf(o.act) < 0 || o.where == 3)) {
            throw new Refused(1);
        }
        return new int[] {f, l};
    }

    private int spot(Reading.Address a) {
        int n = 0;
        switch (a.kind) {
            case '0': n = a.number; break;
            case '.': n = now; break;
            case '$': n = lines.size(); break;
            case '\'':
                if (marks[a.number] == null) {
                    throw new Refused(3);
                }
                n = lines.indexOf(marks[a.number]) + 1;
                break;
            default:
                n = lineWith(a.pattern, a.kind == '?');
                if (n < 0) {
                    throw new Refused(2);
                }
        }
        n += a.shift;
        if (n < 0 || n > lines.size()) {
            throw new Refused(1);
        }
        return n;
    }

    int lineWith(Reading.Pattern p, boolean back) {
        List<Integer> way = new ArrayList<>();
        for (int n = now + 1; n <= lines.size(); n++) {
            way.add(n);
        }
        for (int n = 1; n <= now; n++) {
            way.add(n);
        }
        if (back) {
            way.clear();
            for (int n = now - 1; n >= 1; n--) {
                way.add(n);
            }
            for (int n = lines.size(); n >= now && n >= 1; n--) {
                way.add(n);
            }
        }
        for (int n : way) {
            if (p.find(lines.get(n - 1).row) != null) {
                return n;
            }
        }
        return -1;
    }

    private Line make(String row) {
        return new Line(nextId++, row);
    }

    private void insert(int behind, List<String> rows) {
        for (String row : rows) {
            lines.add(behind++, make(row));
        }
        now = behind;
    }

    private void go(int f, int l) {
        for (int n = f; n <= l; n++) {
            Line line = lines.remove(f - 1);
            for (int m = 0; m < 5; m++) {
                if (marks[m] == line) {
                    marks[m] = null;
                }
            }
        }
    }

    private void limit(boolean tooMuch) {
        if (tooMuch) {
            throw new Refused(4);
        }
    }

    private List<String> rows(int f, int l) {
        List<String> rows = new ArrayList<>();
        for (int n = f; n <= l; n++) {
            rows.add(lines.get(n - 1).row);
        }
        return rows;
    }

    private void one(Reading.Order o, int[] range) {
        int f = range[0];
        int l = range[1];
        switch (o.act) {
            case 'a': insert(l, o.rows); break;
            case 'i': insert(f - 1, o.rows); break;
            case 'c': go(f, l); insert(f - 1, o.rows); break;
            case 'd': go(f, l); now = f <= lines.size() ? f : lines.size(); break;
            case 'j': join(f, l); break;
            case 'v': part(f, l, o.number); break;
            case 'l':
                for (int n = f + 1; n <= l;) {
                    if (lines.get(n - 1).row.equals(lines.get(n - 2).row)) {
                        go(n, n);
                        l--;
                    } else {
                        n++;
                    }
                }
                now = l;
                break;
            case 'p':
                out.addAll(rows(f, l));
                now = l;
                break;
            case 'n':
                for (int n = f; n <= l; n++) {
                    String row = n + " " + lines.get(n - 1).row;
                    limit(row.length() > 30);
                    out.add(row);
                }
                now = l;
                break;
            case '=': out.add("" + l); break;
            case 'h': held = rows(f, l); now = l; break;
            case 'H': held.addAll(rows(f, l)); now = l; break;
            case 'u':
                if (held.isEmpty()) {
                    throw new Refused(5);
                }
                insert(l, held);
                break;
            case 'e':
                if (held.isEmpty()) {
                    throw new Refused(5);
                }
                List<String> left = rows(f, l);
                go(f, l);
                insert(f - 1, held);
                held = left;
                break;
            case '>': case '<': case 's': case 'z':
                for (int n = f; n <= l; n++) {
                    lines.get(n - 1).row = changed(o, lines.get(n - 1).row);
                }
                now = l;
                break;
            case 'o': case 'O': sort(f, l, o.number, o.act == 'O' ? -1 : 1); break;
            case 'm': move(f, l, spot(o.target)); break;
            case 't':
                int to = spot(o.target);
                insert(to, rows(f, l));
                break;
            case 'k': marks[o.number] = lines.get(l - 1); break;
            case 'r':
                if (!files.get(o.number).isEmpty()) {
                    insert(l, files.get(o.number));
                }
                break;
            case 'w': files.set(o.number, rows(f, l)); break;
            default: throw new IllegalStateException("no such act " + o.act);
        }
        limit(lines.size() > 40 || out.size() > 100 || held.size() > 40);
    }

    private void join(int f, int l) {
        if (f == l) {
            if (l == lines.size()) {
                throw new Refused(1);
            }
            l++;
        }
        String row = String.join("", rows(f, l));
        limit(row.length() > 30);
        lines.get(f - 1).row = row;
        go(f + 1, l);
        now = f;
    }

    private void part(int f, int l, int size) {
        List<Line> range = new ArrayList<>(lines.subList(f - 1, l));
        for (Line line : range) {
            now = lines.indexOf(line) + 1;
            if (line.row.length() > size) {
                String rest = line.row.substring(size);
                line.row = line.row.substring(0, size);
                lines.add(now, make(rest));
                now++;
            }
        }
    }

    private void sort(int f, int l, int from, int way) {
        List<Line> range = lines.subList(f - 1, l);
        range.sort((a, b) -> way * tail(a.row, from).compareTo(tail(b.row, from)));
        now = l;
    }

    private static String tail(String row, int from) {
        return from < row.length() ? row.substring(from) : "";
    }

    private void move(int f, int l, int to) {
        if (to >= f && to <= l - 1) {
            throw new Refused(1);
        }
        Line behind = to == 0 ? null : lines.get(to - 1);
        Line last = lines.get(l - 1);
        if (behind != last) {
            List<Line> range = new ArrayList<>(lines.subList(f - 1, l));
            lines.removeAll(range);
            lines.addAll(behind == null ? 0 : lines.indexOf(behind) + 1, range);
        }
        now = lines.indexOf(last) + 1;
    }

    private String changed(Reading.Order o, String row) {
        StringBuilder made = new StringBuilder();
        if (o.act == '>') {
            made.append(" ".repeat(o.number)).append(row);
        } else if (o.act == '<') {
            int n = 0;
            while (n < o.number && n < row.length() && row.charAt(n) == ' ') {
                n++;
            }
            made.append(row.substring(n));
        } else if (o.act == 'z') {
            for (char c : row.toCharArray()) {
                int at = o.turnFrom.indexOf(c);
                made.append(at < 0 ? c : o.turnTo.charAt(at));
            }
        } else {
            made.append(replace(o, row));
        }
        limit(made.length() > 30);
        return made.toString();
    }

    private String replace(Reading.Order o, String row) {
        List<Reading.Match> finds = o.pattern.finds(row);
        StringBuilder made = new StringBuilder();
        int done = 0;
        for (int i = 0; i < finds.size(); i++) {
            if (o.find != 0 && o.find != i + 1) {
                continue;
            }
            Reading.Match m = finds.get(i);
            made.append(row, done, m.place);
            for (int k = 0; k < o.put.length(); k++) {
                char c = o.put.charAt(k);
                if (c == '&') {
                    made.append(row, m.place, m.end);
                } else if (c == '\\') {
                    made.append(m.groups[o.put.charAt(++k) - '1']);
                } else {
                    made.append(c);
                }
            }
            done = m.end;
            replaced = true;
        }
        return made.append(row.substring(done)).toString();
    }

    // ---- line by line

    private List<Line> fresh;
    private List<Line> toCome;
    private Line work;
    private int number;
    private int lastNumber;
    private int serial;
    private List<String> due;
    private boolean ended;

    int streamScript(int script) {
        List<Reading.Order> orders = Reading.orders(scripts[script]);
        calls++;
        reason = 0;
        Deed ahead = new Deed(this, calls);
        List<String> heldAhead = new ArrayList<>(held);
        List<String> outAhead = new ArrayList<>(out);
        List<List<String>> filesAhead = new ArrayList<>();
        for (List<String> file : files) {
            filesAhead.add(new ArrayList<>(file));
        }
        int idAhead = nextId;
        try {
            come = 0;
            clearFiles(orders);
            playAll(orders);
        } catch (Refused e) {
            reason = e.why;
            ahead.back(this);
            held = heldAhead;
            out = outAhead;
            files = filesAhead;
            nextId = idAhead;
            return -1;
        }
        addDeed(ahead);
        return come;
    }

    private void clearFiles(List<Reading.Order> orders) {
        for (Reading.Order o : orders) {
            if (o.act == 'w') {
                files.get(o.number).clear();
            }
            if (o.inner != null) {
                clearFiles(o.inner);
            }
        }
    }

    private void playAll(List<Reading.Order> orders) {
        fresh = new ArrayList<>();
        toCome = new ArrayList<>(lines);
        lastNumber = lines.size();
        serial = 0;
        ended = false;
        while (!ended && takeNext()) {
            try {
                int i = 0;
                while (i < orders.size()) {
                    i = step(orders, i);
                }
            } catch (WorkEnds e) {
                // What is due is put all the same.
            }
            if (!ended) {
                putWork();
            }
        }
        for (Line line : toCome) {
            put(line);
        }
        lines = fresh;
        now = lines.size();
    }

    private boolean takeNext() {
        if (toCome.isEmpty()) {
            return false;
        }
        work = toCome.remove(0);
        number = lines.indexOf(work) + 1;
        due = new ArrayList<>();
        serial++;
        replaced = false;
        return true;
    }

    private void put(Line line) {
        limit(fresh.size() == 40);
        fresh.add(line);
    }

    private void putWork() {
        if (work != null) {
            put(work);
        }
        for (String row : due) {
            limit(fresh.size() == 40);
            put(make(row));
        }
    }

    private void workGoes() {
        for (int m = 0; m < 5; m++) {
            if (marks[m] == work) {
                marks[m] = null;
            }
        }
        work = null;
    }

    private int step(List<Reading.Order> orders, int i) {
        Reading.Order o = orders.get(i);
        come++;
        if (come > 400) {
            throw new Refused(7);
        }
        if ("loOmt".indexOf(o.act) >= 0 || notByLine(o.first) || notByLine(o.second)) {
            throw new Refused(8);
        }
        if (!holds(o)) {
            return i + 1;
        }
        if (o.inner != null) {
            if (o.act == '{' || (o.pattern.find(work.row) != null) == (o.act == 'g')) {
                int k = 0;
                while (k < o.inner.size()) {
                    k = step(o.inner, k);
                }
            }
            return i + 1;
        }
        switch (o.act) {
            case ':': return i + 1;
            case 'q':
                putWork();
                ended = true;
                throw new WorkEnds();
            case 'N':
                putWork();
                if (!takeNext()) {
                    ended = true;
                    throw new WorkEnds();
                }
                return i + 1;
            case 'b': case 'T':
                if (o.act == 'T' && !replaced) {
                    return i + 1;
                }
                if (o.label == 0) {
                    throw new WorkEnds();
                }
                int target = labelled(orders, o.label);
                if (o.act == 'T') {
                    replaced = false;
                }
                return target;
            default:
                workOne(o);
                return i + 1;
        }
    }

    private static boolean notByLine(Reading.Address a) {
        return a != null && a.shifted && a.kind != '0' && a.kind != '$';
    }

    private boolean holds(Reading.Order o) {
        if (o.where < 2) {
            return true;
        }
        if (o.where == 2) {
            return holdsAt(o.first);
        }
        if (o.serial == serial) {
            return o.held;
        }
        o.serial = serial;
        o.over = false;
        boolean counted = o.second.kind == '0' || o.second.kind == '$';
        int end = counted ? told(o.second) : 0;
        if (o.running && counted && number > end) {
            o.running = false;
        }
        if (o.running) {
            o.held = true;
            if (counted ? number == end : holdsAt(o.second)) {
                o.running = false;
                o.over = true;
            }
            return true;
        }
        o.held = holdsAt(o.first);
        if (o.held) {
            o.over = counted && end <= number;
            o.running = !o.over;
        }
        return o.held;
    }

    private int told(Reading.Address a) {
        return (a.kind == '$' ? lastNumber : a.number) + a.shift;
    }

    private boolean holdsAt(Reading.Address a) {
        switch (a.kind) {
            case '0': case '$': return number == told(a);
            case '.': return true;
            case '\'': return marks[a.number] == work;
            default: return a.pattern.find(work.row) != null;
        }
    }

    private void workOne(Reading.Order o) {
        switch (o.act) {
            case 's': case 'z': case '>': case '<': work.row = changed(o, work.row); break;
            case 'n':
                String row = number + " " + work.row;
                limit(row.length() > 30);
                out.add(row);
                break;
            case 'p': out.add(work.row); break;
            case '=': out.add("" + number); break;
            case 'h': held.clear(); held.add(work.row); break;
            case 'H': held.add(work.row); break;
            case 'k': marks[o.number] = work; break;
            case 'a': due.addAll(o.rows); break;
            case 'r': due.addAll(files.get(o.number)); break;
            case 'u':
                if (held.isEmpty()) {
                    throw new Refused(5);
                }
                due.addAll(held);
                break;
            case 'i': putRows(o.rows); break;
            case 'c':
                workGoes();
                if (o.where != 3 || o.over) {
                    putRows(o.rows);
                }
                throw new WorkEnds();
            case 'd':
                workGoes();
                throw new WorkEnds();
            case 'v':
                if (work.row.length() > o.number) {
                    due.add(work.row.substring(o.number));
                    work.row = work.row.substring(0, o.number);
                }
                break;
            case 'j': joinNext(); break;
            case 'e':
                if (held.size() != 1) {
                    throw new Refused(5);
                }
                String other = held.get(0);
                held.set(0, work.row);
                work.row = other;
                break;
            case 'w':
                files.get(o.number).add(work.row);
                limit(files.get(o.number).size() > 40);
                break;
            default: throw new IllegalStateException("no such act " + o.act);
        }
        limit(out.size() > 100 || held.size() > 40);
    }

    private void putRows(List<String> rows) {
        for (String row : rows) {
            limit(fresh.size() == 40);
            put(make(row));
        }
    }

    private void joinNext() {
        if (toCome.isEmpty()) {
            return;
        }
        Line next = toCome.remove(0);
        limit(work.row.length() + next.row.length() > 30);
        work.row += next.row;
        number = lines.indexOf(next) + 1;
        for (int m = 0; m < 5; m++) {
            if (marks[m] == next) {
                marks[m] = null;
            }
        }
    }

    // ---- undoing, lots, differences

    int undo() {
        deeds.remove(deeds.size() - 1).back(this);
        return deeds.size();
    }

    int undoRun() {
        int call = deeds.get(deeds.size() - 1).call;
        int undone = 0;
        while (!deeds.isEmpty() && deeds.get(deeds.size() - 1).call == call) {
            undo();
            undone++;
        }
        return undone;
    }

    private long lot;

    private int lot(int n) {
        lot = (lot * 25173 + 13849) % 65536;
        return (int) (lot / 16 % n);
    }

    int sample(int seed, int many) {
        calls++;
        addDeed(new Deed(this, calls));
        lot = seed;
        for (int i = 0; i < many; i++) {
            StringBuilder row = new StringBuilder();
            int size = lot(9);
            for (int k = 0; k < size; k++) {
                row.append("abcde ".charAt(lot(6)));
            }
            lines.add(make(row.toString()));
        }
        now = lines.size();
        return now;
    }

    /** The row of each line in the difference with a file; -1 for none. */
    int[] pairs(int file) {
        List<String> rows = files.get(file);
        int[] pairs = new int[lines.size()];
        for (int i = 0; i < pairs.length; i++) {
            pairs[i] = -1;
        }
        int i = 0;
        int k = 0;
        while (i < lines.size() && k < rows.size()) {
            if (lines.get(i).row.equals(rows.get(k))) {
                pairs[i++] = ++k;
            } else if (longest(i + 1, rows, k) >= longest(i, rows, k + 1)) {
                i++;
            } else {
                k++;
            }
        }
        return pairs;
    }

    /** The longest common row of the lines from one on and of the rows from one on, measured from the front. */
    private int longest(int line, List<String> rows, int row) {
        int[] best = new int[rows.size() - row + 1];
        for (int i = line; i < lines.size(); i++) {
            int[] next = new int[best.length];
            for (int k = 1; k < best.length; k++) {
                boolean same = lines.get(i).row.equals(rows.get(row + k - 1));
                next[k] = same ? best[k - 1] + 1 : Math.max(best[k], next[k - 1]);
            }
            best = next;
        }
        return best[best.length - 1];
    }
}
