import java.util.List;
import java.util.Random;

/** Random calls, by fixed seeds, done by the class and by the model; after each call all that can be asked is compared. */
public final class ModelTest {
    private static final int OBJECTS = Integer.getInteger("objects", 3000);
    private static final int FIRST = Integer.getInteger("first", 1);

    private final Check check;
    private final Random random;
    private final Subject x = new Subject();
    private final Model m = new Model();
    private final StringBuilder story = new StringBuilder();
    private final boolean gentle;

    private ModelTest(Check check, int seed) {
        this.check = check;
        random = new Random(seed);
        check.topic("seed " + seed);
        gentle = seed % 3 != 0;
        if (seed % 5 == 0) {
            crowd(seed & 65535);
        }
    }

    /** Begins with about as much as there may be of all. */
    private void crowd(int seed) {
        int many = 10 + any(11);
        m.sample(seed, 20);
        x.sample(seed, 20);
        m.sample(seed, many);
        x.sample(seed, many);
        type(pick("%h;w1;%p;%p", "1,20h;2,9w1;%p;1,20p", "1h;w0;1,2w1", "2,20h;3,$w2"));
        m.runTape();
        x.run();
    }

    public static void main(String[] args) {
        Check check = new Check();
        for (int seed = FIRST; seed < FIRST + OBJECTS; seed++) {
            ModelTest test = new ModelTest(check, seed);
            for (int call = 0; call < 25 && test.x.changes() < 430; call++) {
                if (!test.oneCall()) {
                    System.out.println("  after " + test.story);
                    break;
                }
            }
        }
        System.exit(check.close());
    }

    private int any(int below) {
        return random.nextInt(below);
    }

    private String pick(String... words) {
        return words[any(words.length)];
    }

    // ---- the calls

    private boolean oneCall() {
        int lot = any(100);
        String due;
        String got;
        if (lot < 10 && m.lines.size() < 30) {
            int seed = any(65536);
            int many = 1 + any(any(3) == 0 ? 20 : 6);
            story.append("\n  sample ").append(seed).append(' ').append(many);
            due = m.lines.size() + many > 40 ? "IllegalStateException" : "" + m.sample(seed, many);
            got = told(() -> x.sample(seed, many));
        } else if (lot < 45) {
            type(tape());
            due = Reading.faultOfOrders(m.tape) >= 0 ? "IllegalStateException" : "" + m.runTape();
            got = told(x::run);
        } else if (lot < 80) {
            type(tape());
            int script = any(4);
            boolean whole = any(6) == 0;
            boolean bad = Reading.faultOfOrders(m.tape) >= 0;
            due = bad ? "IllegalStateException" : "" + m.tape.length();
            got = told(() -> x.keep(script));
            if (!bad) {
                m.scripts[script] = m.tape;
            }
            if (!due.equals(got)) {
                check.same("keep", due, got);
                return false;
            }
            story.append("  -> script ").append(script).append(whole ? " play" : " stream");
            if (m.scripts[script] == null) {
                due = "IllegalStateException";
            } else {
                due = "" + (whole ? m.playScript(script) : m.streamScript(script));
            }
            got = told(() -> whole ? x.play(script) : x.stream(script));
        } else if (lot < 88) {
            story.append("\n  undo");
            due = m.deeds.isEmpty() ? "IllegalStateException" : "" + m.undo();
            got = told(x::undo);
        } else if (lot < 92) {
            story.append("\n  undoRun");
            due = m.deeds.isEmpty() ? "IllegalStateException" : "" + m.undoRun();
            got = told(x::undoRun);
        } else if (lot < 95) {
            story.append("\n  clearOut");
            due = "" + m.out.size();
            m.out.clear();
            got = told(x::clearOut);
        } else {
            type(any(3) == 0 ? spoiled(pattern()) : pattern());
            boolean back = any(2) == 0;
            boolean bad = Reading.faultOfPattern(m.tape) >= 0;
            due = bad ? "IllegalStateException" : "" + m.lineWith(Reading.pattern(m.tape), back);
            got = told(() -> x.find(back));
            check.same("patternFault of " + m.tape, Reading.faultOfPattern(m.tape), x.patternFault());
            compareFinds(bad);
        }
        check.same("the call", due, got);
        check.same("the fault of " + m.tape, Reading.faultOfOrders(m.tape), x.fault());
        String all = modelState();
        String mine = classState();
        check.same("the state", all, mine);
        return due.equals(got) && all.equals(mine);
    }

    private void compareFinds(boolean bad) {
        for (int line = 1; line <= m.lines.size(); line++) {
            int n = line;
            Reading.Match find = bad ? null : Reading.pattern(m.tape).find(m.lines.get(n - 1).row);
            String none = bad ? "IllegalStateException" : "-1";
            check.same("findStart", find == null ? none : "" + find.place, told(() -> x.findStart(n)));
            check.same("findEnd", find == null ? none : "" + find.end, told(() -> x.findEnd(n)));
        }
    }

    private static String told(Check.Call call) {
        try {
            return "" + call.answer();
        } catch (RuntimeException e) {
            return e.getClass().getSimpleName();
        }
    }

    private void type(String tape) {
        String typed = tape.length() > 60 ? tape.substring(0, 60) : tape;
        story.append("\n  ").append(typed);
        m.tape = typed;
        Check.type(x, typed);
    }

    private String modelState() {
        StringBuilder s = new StringBuilder();
        s.append("now ").append(m.now).append(" reason ").append(m.reason).append(" deeds ").append(m.deeds.size());
        s.append("\ntext");
        for (Model.Line line : m.lines) {
            s.append(' ').append(line.id).append('[').append(line.row).append(']');
        }
        s.append("\nmarks");
        for (Model.Line mark : m.marks) {
            s.append(' ').append(mark == null ? -1 : m.lines.indexOf(mark) + 1);
        }
        s.append("\nheld ").append(rows(m.held)).append("\nout ").append(rows(m.out));
        for (int file = 0; file < 4; file++) {
            s.append("\nfile ").append(rows(m.files.get(file)));
        }
        int file = m.calls % 4;
        int[] pairs = m.pairs(file);
        int alone = m.lines.size() + m.files.get(file).size();
        s.append("\npairs");
        for (int pair : pairs) {
            s.append(' ').append(pair);
            alone -= pair < 0 ? 0 : 2;
        }
        return s.append("\ndiffer ").append(alone).append(" sound true").toString();
    }

    private static String rows(List<String> rows) {
        return rows.size() + "[" + String.join("|", rows) + "]";
    }

    private String classState() {
        StringBuilder s = new StringBuilder();
        s.append("now ").append(x.present()).append(" reason ").append(x.reason()).append(" deeds ").append(x.deeds());
        s.append("\ntext");
        for (int line = 1; line <= x.lines(); line++) {
            s.append(' ').append(x.id(line)).append('[');
            for (int place = 0; place < x.length(line); place++) {
                s.append((char) x.at(line, place));
            }
            s.append(']');
        }
        s.append("\nmarks ").append(Check.marks(x));
        s.append("\nheld ").append(x.held()).append('[').append(Check.held(x)).append(']');
        s.append("\nout ").append(x.outs()).append('[').append(Check.out(x)).append(']');
        for (int file = 0; file < 4; file++) {
            s.append("\nfile ").append(x.fileRows(file)).append('[').append(Check.file(x, file)).append(']');
        }
        int file = m.calls % 4;
        s.append("\npairs");
        for (int line = 1; line <= x.lines(); line++) {
            s.append(' ').append(x.pairOf(file, line));
        }
        return s.append("\ndiffer ").append(x.differ(file)).append(" sound ").append(x.isSound()).toString();
    }

    // ---- tapes

    private String tape() {
        String tape = orders();
        for (int again = 0; again < 20 && tape.length() > 60; again++) {
            tape = orders();
        }
        return any(12) == 0 ? spoiled(tape) : tape;
    }

    private String spoiled(String tape) {
        StringBuilder s = new StringBuilder(tape);
        int place = any(s.length() + 1);
        String sign = "" + pick("a", "1", "/", ";", "}", "{", "(", ")", "\\", "*", "%", ".", "N", "q", "g", "&", "A", "|", ",");
        if (any(3) == 0 && place < s.length()) {
            s.deleteCharAt(place);
        } else if (any(2) == 0 && place < s.length()) {
            s.setCharAt(place, sign.charAt(0));
        } else {
            s.insert(place, sign);
        }
        return s.toString();
    }

    private String orders() {
        StringBuilder s = new StringBuilder();
        int many = 1 + any(6);
        boolean labels = any(4) == 0;
        if (any(8) == 0) {
            return round();
        }
        for (int i = 0; i < many; i++) {
            s.append(i == 0 ? "" : ";").append(topOrder(labels));
        }
        return s.toString();
    }

    /** Orders that go round until something holds. */
    private String round() {
        String run = address() + "," + address();
        String inside = pick(run + "s/" + replacing(), run + pick("c", "a", "i") + rows(), run + "p", run + "j", innerOrder());
        String grows = pick("s/$/x/", "s/a/b/", "s/^/c/", "z/abc/bca/", "N", "j", "s/./&&/");
        String stops = pick("/" + pattern() + "/b", "$b", "/xx/b", "T", "/bb/q", "/" + pattern() + "/,$b");
        return ":A;" + inside + ";" + grows + ";" + stops + ";" + pick("bA", "TA", "TA", "$bA");
    }

    private String topOrder(boolean labels) {
        if (labels && any(3) == 0) {
            return pick(":A", ":B", ":A", "bA", "bB", "b", "TA", "TB", "T", where() + "bA", where() + "TA");
        }
        switch (any(20)) {
            case 0: return where() + pick("q", "N", "N", "T", "b");
            case 1: case 2: return where() + pick("g", "G") + "/" + pattern() + "/" + innerOrder();
            case 3: return where() + pick("g", "G") + "/" + pattern() + "/" + block();
            case 4: return where() + block();
            default: return innerOrder();
        }
    }

    private String block() {
        StringBuilder s = new StringBuilder("{").append(innerOrder());
        for (int i = any(3); i > 0; i--) {
            s.append(';').append(innerOrder());
        }
        return s.append('}').toString();
    }

    private String innerOrder() {
        String where = where();
        switch (any(26)) {
            case 0: case 1: return where + pick("a", "i", "c", "a", "i") + rows();
            case 2: return where + pick("d", "d", "d", "j", "l");
            case 3: return where + "p";
            case 4: return where + "n";
            case 5: return where + "=";
            case 6: return where + "j";
            case 7: return where + pick("h", "H");
            case 8: return where + pick("u", "e");
            case 9: case 10: return where + pick("v", ">", "<") + number();
            case 11: case 12: return where + pick("o", "O") + any(4);
            case 13: return where + "m" + address();
            case 14: return where + "t" + address();
            case 15: return where + "k" + pick("a", "b", "c");
            case 16: return where + pick("r", "w", "w") + any(4);
            case 17: return where + "z/" + pick("ab/ba", "a/ ", "abc/bca", "aab/xyz", " /a") + "/";
            case 18: return where + pick("v2", "v3", "l", "e", "u", "H");
            default: return where + "s/" + replacing();
        }
    }

    private String replacing() {
        String pattern = pattern();
        int groups = 0;
        for (char c : pattern.toCharArray()) {
            groups += c == '(' ? 1 : 0;
        }
        StringBuilder put = new StringBuilder();
        for (int i = any(4); i > 0; i--) {
            put.append(groups > 0 && any(2) == 0 ? "\\" + (1 + any(groups)) : pick("a", "b", "x", "&", " "));
        }
        return pattern + "/" + put + "/" + pick("", "", "g", "g", "1", "2", "3");
    }

    private String number() {
        return any(8) == 0 ? "" + any(100) : "" + any(6);
    }

    private String rows() {
        StringBuilder s = new StringBuilder(row());
        for (int i = any(3); i > 0; i--) {
            s.append('|').append(row());
        }
        return s.toString();
    }

    private String row() {
        StringBuilder s = new StringBuilder();
        for (int i = any(any(10) == 0 ? 25 : 4); i > 0; i--) {
            s.append("abcde 1".charAt(any(7)));
        }
        return s.toString();
    }

    private String where() {
        switch (any(8)) {
            case 0: return "%";
            case 1: return address();
            case 2: case 3: return address() + "," + address();
            case 4: return any(9) + "," + pick("$", "" + any(9));
            case 5: return "" + any(m.lines.size() + 2);
            default: return "";
        }
    }

    private String address() {
        String spot;
        switch (any(9)) {
            case 0: spot = "."; break;
            case 1: case 2: spot = "$"; break;
            case 3: spot = "'" + pick("a", "b", "c"); break;
            case 4: spot = "/" + pattern() + "/"; break;
            case 5: spot = "?" + pattern() + "?"; break;
            default: spot = "" + any(gentle ? m.lines.size() + 1 : 43);
        }
        if (any(gentle ? 12 : 4) == 0) {
            spot += pick("+", "-") + any(4);
        }
        return spot;
    }

    private String pattern() {
        StringBuilder s = new StringBuilder(any(6) == 0 ? "^" : "");
        int stars = 0;
        int groups = 0;
        int items = any(10) == 0 ? any(13) : 1 + any(3);
        for (int i = 0; i < items; i++) {
            int lot = any(12);
            if (lot == 0 && groups < 2) {
                groups++;
                s.append('(');
                for (int k = any(3); k > 0; k--) {
                    boolean star = stars < 2 && any(3) == 0;
                    s.append(star ? "*" : plain());
                    stars += star ? 1 : 0;
                }
                s.append(')');
            } else if (lot == 1 && groups > 0) {
                s.append('\\').append(1 + any(groups));
            } else if (lot == 2 && stars < 2) {
                stars++;
                s.append('*');
            } else {
                s.append(plain());
            }
        }
        if (any(6) == 0) {
            s.append('$');
        }
        return s.length() == 0 ? "a" : s.toString();
    }

    private String plain() {
        return pick("a", "b", "c", "d", "e", " ", ".", "a", "b", "[ab]", "[^ab]", "[c]", "[^e]");
    }
}
