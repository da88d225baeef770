/** Boundaries that part 6 and the promises name: scripts, deeds, lots, differences, and what is asked by numbers. */
public final class EdgeRestTest {
    private final Edge edge = new Edge();
    private final Check check = edge.check;

    public static void main(String[] args) {
        EdgeRestTest test = new EdgeRestTest();
        test.newObject();
        test.runs();
        test.keptScripts();
        test.playedScripts();
        test.reasons();
        test.whatIsADeed();
        test.fortyDeeds();
        test.undoing();
        test.undoingRuns();
        test.linesByNumber();
        test.linesById();
        test.sampling();
        test.lots();
        test.heldByNumber();
        test.outByNumber();
        test.filesByNumber();
        test.finding();
        test.differences();
        test.ties();
        test.soundness();
        System.exit(test.check.close());
    }

    private void newObject() {
        edge.sentence("promise 1: nothing is there");
        Subject x = new Subject();
        check.same("all", "text 0  ids  present 0 marks -1 -1 -1 -1 -1 held 0  out 0  file 0  file 0  file 0  file 0 "
            + " script -1  script -1  script -1  script -1  deeds 0 sound true", Edge.all(x));
        check.same("the tape", 0, x.wipe());
        check.same("the reason", 0, x.reason());
        check.same("NONE", -1, Lineorders.NONE);
        edge.throwing(x, "run()", Edge.ISE, x::run);
        edge.throwing(x, "undo()", Edge.ISE, x::undo);
        edge.throwing(x, "undoRun()", Edge.ISE, x::undoRun);
        edge.throwing(x, "find()", Edge.ISE, () -> x.find(false));
        edge.throwing(x, "length(0)", Edge.IOOBE, () -> x.length(0));
        edge.throwing(x, "length(1)", Edge.IOOBE, () -> x.length(1));
        check.same("lineOf(0)", -1, x.lineOf(0));
        check.same("lineOf(-1)", -1, x.lineOf(-1));
        check.same("clearOut()", 0, x.clearOut());
        check.same("differ(0)", 0, x.differ(0));
    }

    private void runs() {
        edge.sentence("promise 6: how many were come to and not refused, those in blocks and behind g and G not counted");
        Subject x = Edge.text("a|b|c", 1);
        check.same("one", 1, Check.run(x, "p"));
        check.same("one that is refused", 0, Check.run(x, "9p"));
        check.same("none behind it", 1, Check.run(x, "p;9p;p"));
        check.same("a block", 1, Check.run(x, "%{p;p;p}"));
        check.same("g", 2, Check.run(x, "g/./p;G/./{p;p}"));
        check.same("q counts", 1, Check.run(x, "q;p"));
        check.same("b counts, what it passes does not", 2, Check.run(x, "bA;p;p;:A;p"));
        check.same(": counts where it is come to", 2, Check.run(x, ":A;p"));
        check.same("T counts, if it goes on elsewhere or not", 3, Check.run(x, "T;TA;q;:A"));
        check.same("an order that is come to twice counts twice", 4 + 3 + 1,
            Check.run(Edge.text("a|b|c", 1), ":A;$q;N;bA"));
        edge.sentence("promise 6: throws if the tape has a fault as orders");
        for (String tape : new String[] {"", "p;", "x", "1", "{p", "g/a/"}) {
            Check.type(x, tape);
            edge.throwing(x, "run() of " + tape, Edge.ISE, x::run);
        }
    }

    private void keptScripts() {
        edge.sentence("promise 7: keeps the tape as a script, in place of what was there");
        Subject x = new Subject();
        check.same("keep(0)", 1, Check.keep(x, 0, "p"));
        check.same("keep(3)", 60, Check.keep(x, 3, "a" + "|".repeat(59)));
        check.same("keep(0) again", 3, Check.keep(x, 0, "=;q"));
        check.same("lengths", "3 -1 -1 60", x.scriptLength(0) + " " + x.scriptLength(1) + " " + x.scriptLength(2) + " " + x.scriptLength(3));
        Check.type(x, "p;");
        edge.throwing(x, "keep(0) with a fault", Edge.ISE, () -> x.keep(0));
        edge.throwing(x, "keep(1) with a fault", Edge.ISE, () -> x.keep(1));
        x.wipe();
        edge.throwing(x, "keep(0) of an empty tape", Edge.ISE, () -> x.keep(0));
        edge.sentence("promises 7 to 9, 11, 12: there are the scripts 0 to 3");
        for (int script : new int[] {Integer.MIN_VALUE, -1, 4, 5, Integer.MAX_VALUE}) {
            Check.type(x, "p");
            edge.throwing(x, "keep(" + script + ")", Edge.IOOBE, () -> x.keep(script));
            edge.throwing(x, "play(" + script + ")", Edge.IOOBE, () -> x.play(script));
            edge.throwing(x, "stream(" + script + ")", Edge.IOOBE, () -> x.stream(script));
            edge.throwing(x, "scriptLength(" + script + ")", Edge.IOOBE, () -> x.scriptLength(script));
            edge.throwing(x, "scriptAt(" + script + ", 0)", Edge.IOOBE, () -> x.scriptAt(script, 0));
        }
        edge.sentence("promise 12: a sign of a script, if it has it");
        check.same("the first", '=', x.scriptAt(0, 0));
        check.same("the last", 'q', x.scriptAt(0, 2));
        check.same("the last of 60", '|', x.scriptAt(3, 59));
        for (int place : new int[] {Integer.MIN_VALUE, -1, 3, 4, 60, Integer.MAX_VALUE}) {
            edge.throwing(x, "scriptAt(0, " + place + ")", Edge.IOOBE, () -> x.scriptAt(0, place));
        }
        edge.throwing(x, "scriptAt(3, 60)", Edge.IOOBE, () -> x.scriptAt(3, 60));
        edge.throwing(x, "scriptAt(1, 0) of none", Edge.IOOBE, () -> x.scriptAt(1, 0));
        edge.throwing(x, "scriptAt(1, -1) of none", Edge.IOOBE, () -> x.scriptAt(1, -1));
    }

    private void playedScripts() {
        edge.sentence("promises 8 and 9: throw if none was kept there");
        Subject x = Edge.text("a|b", 1);
        for (int script = 0; script < 4; script++) {
            int n = script;
            edge.throwing(x, "play(" + n + ")", Edge.ISE, () -> x.play(n));
            edge.throwing(x, "stream(" + n + ")", Edge.ISE, () -> x.stream(n));
        }
        Check.keep(x, 2, "s/$/x/;9p");
        check.same("play(2)", 1, x.play(2));
        check.same("its reason", 1, x.reason());
        check.same("stream(2)", 4, x.stream(2));
        check.same("its reason", 0, x.reason());
        check.same("the text", "axx|bx @2", Edge.state(x));
        edge.throwing(x, "play(1)", Edge.ISE, () -> x.play(1));
        edge.throwing(x, "stream(3)", Edge.ISE, () -> x.stream(3));
        Check.keep(x, 0, "l");
        check.same("NONE if one was refused", Lineorders.NONE, x.stream(0));
        edge.sentence("promises 8 and 9: the orders of the script, whatever is on the tape");
        Check.keep(x, 1, "1cx");
        Check.type(x, "%d");
        check.same("the tape has no fault", -1, x.fault());
        check.same("play(1)", 1, x.play(1));
        check.same("the text", "x|bx @1", Edge.state(x));
        Check.keep(x, 3, "2cy");
        Check.type(x, "(");
        check.same("the tape has a fault", 0, x.fault());
        check.same("stream(1)", 2, x.stream(1));
        check.same("stream(3)", 2, x.stream(3));
        check.same("the text", "x|y @2", Edge.state(x));
        x.wipe();
        check.same("with an empty tape", 2, x.stream(1));
        check.same("play(3) with an empty tape", 1, x.play(3));
        Check.keep(x, 0, "l");
        edge.sentence("promises 8 and 9: throw if none was kept there, or NONE if one was refused");
        check.same("stream(0)", Lineorders.NONE, x.stream(0));
        check.same("over the whole it is not", 1, x.play(0));
    }

    private void reasons() {
        edge.sentence("promise 10: the reason of the latest run(), play() or stream() that did not throw; 0 ahead of all");
        Subject x = new Subject();
        check.same("ahead of all", 0, x.reason());
        Check.type(x, "");
        check.throwing("run()", Edge.ISE, x::run);
        check.same("behind a throw", 0, x.reason());
        Check.run(x, "'ap");
        check.same("by run()", 3, x.reason());
        x.sample(1, 3);
        x.undo();
        x.sample(1, 3);
        x.clearOut();
        x.wipe();
        x.fault();
        check.throwing("play()", Edge.ISE, () -> x.play(1));
        check.throwing("stream()", Edge.IOOBE, () -> x.stream(4));
        Check.keep(x, 0, "p");
        x.find(false);
        check.same("it stays", 3, x.reason());
        x.play(0);
        check.same("by play()", 0, x.reason());
        Check.keep(x, 0, "o0");
        x.stream(0);
        check.same("by stream()", 8, x.reason());
        x.play(0);
        check.same("by play() again", 0, x.reason());
    }

    private void whatIsADeed() {
        edge.sentence("6: each order that was done, also one that changed nothing, but :, b, T and q, is a deed");
        String[] deeds = {"ax", "ix", "cx", "d", "j", "l", "p", "=", "n", "h", "H", "N", "v0", "v9", ">0", "<0", "o0", "O0", "m1", "m.", "t0",
            "ka", "r0", "w0", "s/x/y/", "z/x/y/", "g/x/d", "G/*/d", "{p}", "%{p;p;p}", "g/./{>0;<0}", "3N", "2,3N", "%l", "u", "e"};
        for (String orders : deeds) {
            Subject x = Edge.text("a|b|c", 1);
            if (orders.equals("u") || orders.equals("e")) {
                Check.run(x, "h");
            }
            int ahead = x.deeds();
            String was = Edge.state(x) + Check.ids(x) + Check.marks(x);
            edge.allowed(x, orders);
            check.same(orders + " is a deed", ahead + 1, x.deeds());
            check.same("undone", ahead, x.undo());
            check.same("as it was ahead of " + orders, was, Edge.state(x) + Check.ids(x) + Check.marks(x));
        }
        for (String orders : new String[] {":A", "b", "T", "q", "2q", "1q", ":A;bB;:B", "TX", "9-8b", "2T", "q;p"}) {
            Subject x = Edge.text("a|b|c", 1);
            int ahead = x.deeds();
            edge.allowed(x, orders);
            check.same(orders + " is none", ahead, x.deeds());
        }
        edge.sentence("6: one that is refused is none");
        for (String orders : new String[] {"9p", "u", "bX", "3j", "0d", "%{d;p;9p}", "2,1p"}) {
            Subject x = Edge.text("a|b|c", 1);
            edge.refused(x, orders, orders.equals("u") ? 5 : orders.equals("bX") ? 6 : 1);
        }
        edge.sentence("6: so is each script that was played line by line, and each sample()");
        Subject x = Edge.text("a|b|c", 1);
        int ahead = x.deeds();
        edge.allowedByLine(x, "p;=;s/a/b/;q");
        check.same("one", ahead + 1, x.deeds());
        edge.refusedByLine(x, "p;l", 8);
        x.sample(1, 1);
        check.same("sample()", ahead + 2, x.deeds());
        edge.throwing(x, "sample(-1, 1)", Edge.IAE, () -> x.sample(-1, 1));
    }

    private void fortyDeeds() {
        edge.sentence("6: at most 40 deeds are kept; a 41st one drops the oldest");
        Subject x = new Subject();
        Check.run(x, "a0");
        Check.run(x, "s/$/1/");
        for (int deed = 3; deed <= 40; deed++) {
            Check.run(x, "s/*/" + deed + "/");
            check.same("deeds", deed, x.deeds());
        }
        Subject y = new Subject();
        Check.run(y, "a0");
        for (int deed = 2; deed <= 40; deed++) {
            Check.run(y, "s/*/" + deed + "/");
        }
        Check.run(y, "s/*/41/");
        check.same("41 deeds: 40 are kept", 40, y.deeds());
        for (int left = 39; left >= 0; left--) {
            check.same("undo() of x", left, x.undo());
            check.same("undo() of y", left, y.undo());
        }
        check.same("all 40 of x were undone", 0, x.lines());
        check.same("the oldest of y was dropped", "0 @1", Edge.state(y));
        edge.throwing(x, "undo() of none", Edge.ISE, x::undo);
        edge.throwing(y, "undo() of none", Edge.ISE, y::undo);
        edge.throwing(y, "undoRun() of none", Edge.ISE, y::undoRun);
        edge.sentence("6: a 41st deed drops the oldest; what is none, is refused or throws does not");
        Subject w = new Subject();
        for (int deed = 1; deed <= 41; deed++) {
            Check.run(w, deed == 1 ? "a0" : "s/*/" + deed + "/");
        }
        Check.run(w, ":A;T;$b;q");
        edge.refused(w, "2p", 1);
        edge.refused(w, "%{s/*/x/;2p}", 1);
        edge.refusedByLine(w, "s/*/x/;l", 8);
        edge.throwing(w, "sample(0, 0)", Edge.IAE, () -> w.sample(0, 0));
        check.same("40 are kept", 40, w.deeds());
        for (int left = 39; left > 0; left--) {
            w.undo();
            check.same("with " + left + " kept", (left + 1) + " @1", Edge.state(w));
        }
        w.undo();
        check.same("as it was ahead of the oldest that was kept", "0 @1", Edge.state(w));
        edge.sentence("6: a script and a sample drop the oldest, too");
        Subject z = new Subject();
        Check.run(z, "a0");
        Check.run(z, ":A;=;bA");
        Check.run(z, "=;=;=;=;=;=;=;=;=");
        check.same("40 are kept", 40, z.deeds());
        z.sample(1, 1);
        check.same("still 40", 40, z.deeds());
        edge.allowedByLine(z, "s/$/x/");
        check.same("still 40", 40, z.deeds());
        check.same("the script", 1, z.undoRun());
        check.same("the sample", 1, z.undoRun());
        check.same("9 of a run", 9, z.undoRun());
        check.same("29 of 30 are left", 29, z.undoRun());
        check.same("a was dropped", "0 @1", Edge.state(z));
    }

    private void undoing() {
        edge.sentence("6: to undo is to let the text, with its lines and ids, the marks and the present line be as they were");
        Subject x = Edge.text("a|b|c", 2);
        Check.run(x, "1ka;3kb");
        String was = Edge.state(x) + " " + Check.ids(x) + " " + Check.marks(x);
        String[] orders = {"%d", "1,2d", "%cx", "1j", "%O0", "1m$", "2t0", "%s/*/x/", "v0", "2ka", "1ax|y", "1iz", "N", "$>9"};
        for (String one : orders) {
            int deeds = x.deeds();
            edge.allowed(x, one);
            check.same("undo() of " + one, deeds, x.undo());
            check.same("as it was", was, Edge.state(x) + " " + Check.ids(x) + " " + Check.marks(x));
            boolean overTheWholeAlone = one.equals("%O0") || one.equals("1m$") || one.equals("2t0");
            edge.allowedByLine(x, overTheWholeAlone ? "d" : one);
            check.same("undo() of it line by line", deeds, x.undo());
            check.same("as it was", was, Edge.state(x) + " " + Check.ids(x) + " " + Check.marks(x));
        }
        edge.sentence("6: what is held, the files, the out and the scripts stay as they are");
        Check.keep(x, 1, "p");
        Check.run(x, "1,2h;w2;1p");
        String stays = Check.held(x) + "+" + Check.file(x, 2) + "+" + Check.out(x) + "+" + x.scriptLength(1);
        check.same("what there is", "a|b+a|b|c+a+1", stays);
        x.undoRun();
        check.same("it stays", stays, Check.held(x) + "+" + Check.file(x, 2) + "+" + Check.out(x) + "+" + x.scriptLength(1));
        Check.run(x, "3e");
        x.undo();
        check.same("what e holds stays", "c", Check.held(x));
        check.same("the text is as it was", was, Edge.state(x) + " " + Check.ids(x) + " " + Check.marks(x));
        edge.sentence("6: a deed that was undone is none any more");
        Subject y = Edge.text("a|b|c", 1);
        int deeds = y.deeds();
        Check.run(y, "d;d");
        y.undo();
        Check.run(y, "s/$/x/");
        check.same("deeds", deeds + 2, y.deeds());
        y.undo();
        check.same("the one ahead", "b|c @1", Edge.state(y));
        y.undo();
        check.same("the first one", "a|b|c @1", Edge.state(y));
        edge.sentence("always (2): as often as there is one");
        for (int left = y.deeds() - 1; left >= 0; left--) {
            check.same("undo()", left, y.undo());
        }
        check.same("none is left", 0, y.lines());
    }

    private void undoingRuns() {
        edge.sentence("promise 14: the latest deed, and those kept next ahead of it that the same call made");
        Subject x = new Subject();
        Check.run(x, "aa;ab;ac");
        x.run();
        check.same("the same tape twice: two calls", 3, x.undoRun());
        check.same("the text", "a|b|c @3", Edge.state(x));
        check.same("undo()", 2, x.undo());
        check.same("what is left of the call", 2, x.undoRun());
        edge.throwing(x, "none is left", Edge.ISE, x::undoRun);
        Check.keep(x, 0, "$ax;$ay");
        x.play(0);
        x.play(0);
        x.stream(0);
        x.sample(1, 2);
        x.sample(1, 2);
        check.same("a sample", 1, x.undoRun());
        check.same("another one", 1, x.undoRun());
        check.same("a script line by line", 1, x.undoRun());
        check.same("a script over the whole", 2, x.undoRun());
        check.same("another one", 2, x.undoRun());
        edge.sentence("promise 14: orders that are no deeds, and calls that made none, do not part them");
        Check.run(x, "aa;:A;ab;T;bB;:B;ac;9p");
        Check.run(x, "9p");
        Check.run(x, ":A");
        check.same("three of a run", 3, x.undoRun());
        check.same("none is left", 0, x.deeds());
        for (int call = 0; call < 4; call++) {
            Subject y = Edge.text("a|b|c", 1);
            Check.keep(y, 0, "s/$/x/");
            Check.keep(y, 1, "9d");
            Check.keep(y, 2, "l");
            y.play(0);
            int none = call == 0 ? y.play(1) : call == 1 ? y.stream(2) : call == 2 ? Check.run(y, "9d") : y.wipe();
            y.play(0);
            check.same("one of the latest call, behind " + none, 1, y.undoRun());
            check.same("one of the call ahead", 1, y.undoRun());
            check.same("the text", "a|b|c @1", Edge.state(y));
            y.sample(1, 1);
            y.play(1);
            y.sample(1, 1);
            y.play(1);
            y.stream(0);
            check.same("a script", 1, y.undoRun());
            check.same("a sample", 1, y.undoRun());
            check.same("another one", 1, y.undoRun());
        }
        edge.sentence("promise 14: those that were dropped are not undone");
        Check.run(x, "a");
        Check.run(x, ":A;>0;bA");
        Check.run(x, ":A;<0;bA");
        check.same("40 are kept", 40, x.deeds());
        check.same("30 of the latest", 30, x.undoRun());
        check.same("10 of 30 ahead of it", 10, x.undoRun());
        edge.throwing(x, "none is left", Edge.ISE, x::undoRun);
    }

    private void linesByNumber() {
        edge.sentence("promises 16 to 19: no such line, or no such place");
        Subject x = Check.with("ab", "", Edge.ROW30);
        check.same("lines()", 3, x.lines());
        check.same("length(1)", 2, x.length(1));
        check.same("length(2)", 0, x.length(2));
        check.same("length(3)", 30, x.length(3));
        check.same("at(1, 0)", 'a', x.at(1, 0));
        check.same("at(1, 1)", 'b', x.at(1, 1));
        check.same("at(3, 29)", '9', x.at(3, 29));
        check.same("id(1)", 0, x.id(1));
        check.same("id(3)", 2, x.id(3));
        for (int line : new int[] {Integer.MIN_VALUE, -1, 0, 4, 40, 41, Integer.MAX_VALUE}) {
            edge.throwing(x, "length(" + line + ")", Edge.IOOBE, () -> x.length(line));
            edge.throwing(x, "at(" + line + ", 0)", Edge.IOOBE, () -> x.at(line, 0));
            edge.throwing(x, "id(" + line + ")", Edge.IOOBE, () -> x.id(line));
            edge.throwing(x, "pairOf(0, " + line + ")", Edge.IOOBE, () -> x.pairOf(0, line));
        }
        for (int place : new int[] {Integer.MIN_VALUE, -1, 2, 29, 30, 60, Integer.MAX_VALUE}) {
            edge.throwing(x, "at(1, " + place + ")", Edge.IOOBE, () -> x.at(1, place));
            edge.throwing(x, "at(2, " + place + ")", Edge.IOOBE, () -> x.at(2, place));
        }
        edge.throwing(x, "at(2, 0)", Edge.IOOBE, () -> x.at(2, 0));
        edge.throwing(x, "at(3, 30)", Edge.IOOBE, () -> x.at(3, 30));
        edge.throwing(x, "at(3, -1)", Edge.IOOBE, () -> x.at(3, -1));
        Check.run(x, "3d");
        edge.throwing(x, "length(3) of a line that went", Edge.IOOBE, () -> x.length(3));
        edge.throwing(x, "at(3, 0) of a line that went", Edge.IOOBE, () -> x.at(3, 0));
        edge.throwing(x, "id(3) of a line that went", Edge.IOOBE, () -> x.id(3));
        Check.run(x, "1s/b//");
        edge.throwing(x, "at(1, 1) of a row that is shorter", Edge.IOOBE, () -> x.at(1, 1));
    }

    private void linesById() {
        edge.sentence("promise 20: the number of the line with an id; NONE if it is not there");
        Subject x = Check.with("a", "b", "c");
        check.same("lineOf(0)", 1, x.lineOf(0));
        check.same("lineOf(2)", 3, x.lineOf(2));
        for (int id : new int[] {Integer.MIN_VALUE, -1, 3, 40, Integer.MAX_VALUE}) {
            check.same("lineOf(" + id + ")", -1, x.lineOf(id));
        }
        Check.run(x, "1d");
        check.same("lineOf(0) of a line that went", -1, x.lineOf(0));
        check.same("lineOf(1)", 1, x.lineOf(1));
        Check.run(x, "2m0");
        check.same("lineOf(2) of a line that was moved", 1, x.lineOf(2));
        x.undo();
        x.undo();
        check.same("lineOf(0) of a line that is there again", 1, x.lineOf(0));
    }

    private void sampling() {
        edge.sentence("promise 23: seed 0 to 65535, many 1 to 20");
        Subject x = new Subject();
        for (int seed : new int[] {Integer.MIN_VALUE, -1, 65536, 65537, Integer.MAX_VALUE}) {
            edge.throwing(x, "sample(" + seed + ", 1)", Edge.IAE, () -> x.sample(seed, 1));
        }
        for (int many : new int[] {Integer.MIN_VALUE, -1, 0, 21, 40, 41, Integer.MAX_VALUE}) {
            edge.throwing(x, "sample(0, " + many + ")", Edge.IAE, () -> x.sample(0, many));
        }
        check.same("sample(0, 1)", 1, x.sample(0, 1));
        check.same("sample(65535, 20)", 21, x.sample(65535, 20));
        edge.sentence("promise 23: throws if there would be more than 40 lines");
        edge.throwing(x, "sample(1, 20) of 21", Edge.ISE, () -> x.sample(1, 20));
        check.same("sample(1, 18)", 39, x.sample(1, 18));
        edge.throwing(x, "sample(1, 2) of 39", Edge.ISE, () -> x.sample(1, 2));
        check.same("sample(1, 1) of 39", 40, x.sample(1, 1));
        edge.throwing(x, "sample(1, 1) of 40", Edge.ISE, () -> x.sample(1, 1));
        check.same("the last of them is the present line", 40, x.present());
        String rows = Check.text(x);
        check.same("undo() of a sample", 3, x.undo());
        check.same("the lines ahead of it", 39, x.lines());
        check.same("the present line ahead of it", 39, x.present());
        check.holds("their rows", rows.startsWith(Check.text(x)));
        check.same("another sample", 40, x.sample(1, 1));
        check.same("the same lots give the same row", rows, Check.text(x));
        check.same("an id is not given again", 40, x.id(40));
        x.undo();
        x.undo();
        check.same("two samples undone", 21, x.lines());
        check.same("18 again", 39, x.sample(1, 18));
        check.same("1 again", 40, x.sample(1, 1));
        check.same("ids", 59, x.id(40));
    }

    private void lots() {
        edge.sentence("6: a lot of 9 characters, each a, b, c, d, e or a blank by a lot of 6");
        for (int seed : new int[] {0, 1, 7, 15, 16, 255, 256, 4095, 32767, 32768, 40000, 65534, 65535}) {
            Subject x = new Subject();
            Check.run(x, "aq");
            Check.run(x, "1ip");
            check.same("sample", 22, x.sample(seed, 20));
            StringBuilder due = new StringBuilder("p|q");
            long lot = seed;
            for (int line = 0; line < 20; line++) {
                lot = (25173 * lot + 13849) % 65536;
                long characters = lot / 16 % 9;
                due.append('|');
                for (long place = 0; place < characters; place++) {
                    lot = (25173 * lot + 13849) % 65536;
                    due.append("abcde ".charAt((int) (lot / 16 % 6)));
                }
            }
            check.same("the text by " + seed, due.toString(), Check.text(x));
        }
        // By hand: 0 becomes 13849, that is 865 sixteenths, 1 in the lot of 9; then 48742, that is 3046, 4 in that of 6.
        Subject one = new Subject();
        one.sample(0, 1);
        check.same("one character", "e @1", Edge.state(one));
    }

    private void heldByNumber() {
        edge.sentence("promises 24 to 26: no such row is held, or it has no such place");
        Subject x = Check.with("ab", "", Edge.ROW30);
        edge.throwing(x, "heldLength(1) of none", Edge.IOOBE, () -> x.heldLength(1));
        edge.throwing(x, "heldAt(1, 0) of none", Edge.IOOBE, () -> x.heldAt(1, 0));
        Check.run(x, "%h");
        check.same("held()", 3, x.held());
        check.same("heldLength(1)", 2, x.heldLength(1));
        check.same("heldLength(3)", 30, x.heldLength(3));
        check.same("heldAt(1, 1)", 'b', x.heldAt(1, 1));
        check.same("heldAt(3, 29)", '9', x.heldAt(3, 29));
        for (int row : new int[] {Integer.MIN_VALUE, -1, 0, 4, 40, 41, Integer.MAX_VALUE}) {
            edge.throwing(x, "heldLength(" + row + ")", Edge.IOOBE, () -> x.heldLength(row));
            edge.throwing(x, "heldAt(" + row + ", 0)", Edge.IOOBE, () -> x.heldAt(row, 0));
            edge.throwing(x, "heldAt(1, " + (row == 0 ? 2 : row) + ")", Edge.IOOBE, () -> x.heldAt(1, row == 0 ? 2 : row));
            edge.throwing(x, "heldAt(2, " + row + ")", Edge.IOOBE, () -> x.heldAt(2, row));
        }
        edge.throwing(x, "heldAt(3, 30)", Edge.IOOBE, () -> x.heldAt(3, 30));
        Check.run(x, "1h");
        edge.throwing(x, "heldLength(2) of fewer", Edge.IOOBE, () -> x.heldLength(2));
        edge.throwing(x, "heldAt(3, 0) of fewer", Edge.IOOBE, () -> x.heldAt(3, 0));
    }

    private void outByNumber() {
        edge.sentence("promises 27 to 30: no such row of the out, or it has no such place");
        Subject x = Check.with("ab", "", Edge.ROW30);
        edge.throwing(x, "outLength(1) of none", Edge.IOOBE, () -> x.outLength(1));
        edge.throwing(x, "outAt(1, 0) of none", Edge.IOOBE, () -> x.outAt(1, 0));
        check.same("clearOut() of none", 0, x.clearOut());
        Check.run(x, "%p");
        check.same("outs()", 3, x.outs());
        check.same("outLength(2)", 0, x.outLength(2));
        check.same("outAt(1, 0)", 'a', x.outAt(1, 0));
        check.same("outAt(3, 29)", '9', x.outAt(3, 29));
        for (int row : new int[] {Integer.MIN_VALUE, -1, 0, 4, 100, 101, Integer.MAX_VALUE}) {
            edge.throwing(x, "outLength(" + row + ")", Edge.IOOBE, () -> x.outLength(row));
            edge.throwing(x, "outAt(" + row + ", 0)", Edge.IOOBE, () -> x.outAt(row, 0));
            edge.throwing(x, "outAt(2, " + row + ")", Edge.IOOBE, () -> x.outAt(2, row));
        }
        edge.throwing(x, "outAt(1, 2)", Edge.IOOBE, () -> x.outAt(1, 2));
        edge.throwing(x, "outAt(1, -1)", Edge.IOOBE, () -> x.outAt(1, -1));
        edge.throwing(x, "outAt(3, 30)", Edge.IOOBE, () -> x.outAt(3, 30));
        int deeds = x.deeds();
        check.same("clearOut()", 3, x.clearOut());
        check.same("clearOut() again", 0, x.clearOut());
        check.same("it is no deed", deeds, x.deeds());
        edge.throwing(x, "outLength(1) then", Edge.IOOBE, () -> x.outLength(1));
        Subject full = Edge.empties(40);
        Check.run(full, "1cab;%p;%p;1,19p;1p");
        check.same("outLength(100)", 2, full.outLength(100));
        check.same("outAt(100, 1)", 'b', full.outAt(100, 1));
        edge.throwing(full, "outLength(101)", Edge.IOOBE, () -> full.outLength(101));
    }

    private void filesByNumber() {
        edge.sentence("promises 31 to 33: no such file or row, or it has no such place");
        Subject x = Check.with("ab", "", Edge.ROW30);
        Check.run(x, "w0;2,3w3");
        check.same("fileRows(0)", 3, x.fileRows(0));
        check.same("fileRows(1)", 0, x.fileRows(1));
        check.same("fileRows(3)", 2, x.fileRows(3));
        check.same("fileLength(3, 1)", 0, x.fileLength(3, 1));
        check.same("fileLength(3, 2)", 30, x.fileLength(3, 2));
        check.same("fileAt(0, 1, 1)", 'b', x.fileAt(0, 1, 1));
        check.same("fileAt(3, 2, 29)", '9', x.fileAt(3, 2, 29));
        for (int file : new int[] {Integer.MIN_VALUE, -1, 4, 5, Integer.MAX_VALUE}) {
            edge.throwing(x, "fileRows(" + file + ")", Edge.IOOBE, () -> x.fileRows(file));
            edge.throwing(x, "fileLength(" + file + ", 1)", Edge.IOOBE, () -> x.fileLength(file, 1));
            edge.throwing(x, "fileAt(" + file + ", 1, 0)", Edge.IOOBE, () -> x.fileAt(file, 1, 0));
            edge.throwing(x, "differ(" + file + ")", Edge.IOOBE, () -> x.differ(file));
            edge.throwing(x, "pairOf(" + file + ", 1)", Edge.IOOBE, () -> x.pairOf(file, 1));
        }
        for (int row : new int[] {Integer.MIN_VALUE, -1, 0, 4, 40, 41, Integer.MAX_VALUE}) {
            edge.throwing(x, "fileLength(0, " + row + ")", Edge.IOOBE, () -> x.fileLength(0, row));
            edge.throwing(x, "fileAt(0, " + row + ", 0)", Edge.IOOBE, () -> x.fileAt(0, row, 0));
            edge.throwing(x, "fileAt(0, 2, " + row + ")", Edge.IOOBE, () -> x.fileAt(0, 2, row));
        }
        edge.throwing(x, "fileLength(1, 1) of none", Edge.IOOBE, () -> x.fileLength(1, 1));
        edge.throwing(x, "fileLength(3, 3)", Edge.IOOBE, () -> x.fileLength(3, 3));
        edge.throwing(x, "fileAt(0, 1, 2)", Edge.IOOBE, () -> x.fileAt(0, 1, 2));
        edge.throwing(x, "fileAt(0, 1, -1)", Edge.IOOBE, () -> x.fileAt(0, 1, -1));
        edge.throwing(x, "fileAt(0, 3, 30)", Edge.IOOBE, () -> x.fileAt(0, 3, 30));
        edge.throwing(x, "fileAt(3, 3, 0)", Edge.IOOBE, () -> x.fileAt(3, 3, 0));
    }

    private void finding() {
        edge.sentence("always (5): find() tells the next line that holds a pattern, going round once");
        Subject x = Edge.text("a|b|c|b", 3);
        String[] patterns = {"a", "b", "c", "q", "^$", "*"};
        int[] next = {1, 4, 3, -1, -1, 4};
        int[] nearest = {1, 2, 3, -1, -1, 2};
        for (int i = 0; i < patterns.length; i++) {
            Check.type(x, patterns[i]);
            check.same("find(false) of " + patterns[i], next[i], x.find(false));
            check.same("find(true) of " + patterns[i], nearest[i], x.find(true));
            check.same("the present line stays", 3, x.present());
        }
        Subject empty = new Subject();
        Check.type(empty, "*");
        check.same("without lines", -1, empty.find(false));
        check.same("without lines, back", -1, empty.find(true));
        edge.sentence("promises 34 to 36: throw if the tape has a fault as a pattern");
        for (String tape : new String[] {"", "/", "a(", "***", "[a", "p;"}) {
            Check.type(x, tape);
            edge.throwing(x, "find(false) of " + tape, Edge.ISE, () -> x.find(false));
            edge.throwing(x, "find(true) of " + tape, Edge.ISE, () -> x.find(true));
            edge.throwing(x, "findStart(4) of " + tape, Edge.ISE, () -> x.findStart(4));
            edge.throwing(x, "findEnd(1) of " + tape, Edge.ISE, () -> x.findEnd(1));
        }
        edge.sentence("promises 35 and 36: NONE if the line does not hold it; throw if there is no such line");
        Check.type(x, "b");
        check.same("findStart(1)", -1, x.findStart(1));
        check.same("findEnd(1)", -1, x.findEnd(1));
        check.same("findStart(2)", 0, x.findStart(2));
        check.same("findEnd(4)", 1, x.findEnd(4));
        for (int line : new int[] {Integer.MIN_VALUE, -1, 0, 5, 40, 41, Integer.MAX_VALUE}) {
            edge.throwing(x, "findStart(" + line + ")", Edge.IOOBE, () -> x.findStart(line));
            edge.throwing(x, "findEnd(" + line + ")", Edge.IOOBE, () -> x.findEnd(line));
        }
    }

    /** The rows with which the lines are in a pair, and how many of both are in none. */
    private static String pairs(String text, String rows) {
        Subject x = rows.equals("-") ? new Subject() : Edge.text(rows, 1);
        Check.run(x, "w2;%d");
        if (!text.equals("-")) {
            for (String line : text.split("\\|", -1)) {
                Check.run(x, "$a" + line);
            }
        }
        StringBuilder all = new StringBuilder();
        for (int line = 1; line <= x.lines(); line++) {
            all.append(x.pairOf(2, line)).append(' ');
        }
        return all.append("/ ").append(x.differ(2)).toString();
    }

    private void differences() {
        edge.sentence("6: if the next line has the next row, they are a pair, and both are passed");
        check.same("alike", "1 2 3 / 0", pairs("a|b|c", "a|b|c"));
        check.same("rows without characters", "1 2 / 0", pairs("|", "|"));
        check.same("a blank makes another row", "-1 / 2", pairs("a ", "a"));
        check.same("a row more at the end", "1 2 / 1", pairs("a|b", "a|b|c"));
        check.same("a row more ahead", "2 3 / 1", pairs("b|c", "a|b|c"));
        check.same("a line more at the end", "1 2 -1 / 1", pairs("a|b|c", "a|b"));
        check.same("a line more ahead", "-1 1 2 / 1", pairs("a|b|c", "b|c"));
        check.same("one in the middle", "1 -1 2 / 1", pairs("a|b|c", "a|c"));
        edge.sentence("6: till one of both has none left");
        check.same("no rows", "-1 -1 / 2", pairs("a|b", "-"));
        check.same("no lines", "/ 2", pairs("-", "a|b"));
        check.same("neither", "/ 0", pairs("-", "-"));
        check.same("nothing alike", "-1 -1 / 5", pairs("a|b", "c|d|e"));
        Subject full = Edge.empties(40);
        Check.run(full, "w0");
        check.same("40 and 40", 0, full.differ(0));
        check.same("the last one", 40, full.pairOf(0, 40));
        Check.run(full, "%s/$/x/");
        check.same("40 and 40 unlike ones", 80, full.differ(0));
        check.same("none", -1, full.pairOf(0, 40));
        check.same("with a file without rows", 40, full.differ(1));
        Subject last = Edge.empties(40);
        Check.run(last, "40ce;w0;1,39s/$/x/");
        check.same("the last of 40 is the same", 78, last.differ(0));
        check.same("its row", 40, last.pairOf(0, 40));
        check.same("no other one", -1, last.pairOf(0, 39));
        Check.run(last, "$m0");
        check.same("the first of 40 is the last", 78, last.differ(0));
        check.same("its row", 40, last.pairOf(0, 1));
        Check.run(last, "40w1");
        check.same("40 lines and one row", 39, last.differ(1));
        check.same("the first one like it", 1, last.pairOf(1, 2));
        Subject crossed = Edge.empties(35);
        Check.run(crossed, "0ap|p|a|b;$az;w0;1,2d;$ia|b");
        check.same("40 lines", 40, crossed.lines());
        check.same("two rows ahead, and two lines ahead of the last row", 4, crossed.differ(0));
        check.same("the first line is in a pair", 3, crossed.pairOf(0, 1));
        check.same("a line that has no row", -1, crossed.pairOf(0, 39));
        check.same("the last line has the last row", 40, crossed.pairOf(0, 40));
    }

    private void ties() {
        edge.sentence("6: otherwise the line is passed, if the longest common row without it is no less; otherwise the row");
        check.same("as long: the line is passed", "-1 1 / 2", pairs("b|a", "a|b"));
        check.same("three", "-1 -1 1 / 4", pairs("c|b|a", "a|b|c"));
        check.same("longer without the row", "2 3 -1 / 2", pairs("b|c|a", "a|b|c"));
        check.same("longer without the line", "-1 1 2 / 2", pairs("c|a|b", "a|b|c"));
        check.same("twice alike", "-1 1 2 -1 / 2", pairs("b|a|b|a", "a|b"));
        check.same("the other way round", "2 3 / 2", pairs("a|b", "b|a|b|a"));
        check.same("a long one", "-1 1 3 -1 4 / 3", pairs("x|a|b|y|c", "a|q|b|c"));
        check.same("crossed", "-1 -1 1 2 / 4", pairs("c|d|a|b", "a|b|c|d"));
        check.same("crossed, with one more of the lines", "3 4 5 -1 -1 / 4", pairs("c|d|e|a|b", "a|b|c|d|e"));
        check.same("crossed, with one more of the rows", "-1 -1 1 2 3 / 4", pairs("d|e|a|b|c", "a|b|c|d|e"));
        check.same("alike ones in turn", "1 2 3 -1 / 1", pairs("a|b|a|b", "a|b|a"));
        check.same("alike ones in turn, a row more ahead", "2 3 4 / 1", pairs("a|b|a", "b|a|b|a"));
        check.same("a row twice", "1 3 / 1", pairs("a|b", "a|a|b"));
        check.same("a line twice", "1 -1 2 / 1", pairs("a|a|b", "a|b"));
        check.same("a row is in one pair alone", "2 3 -1 -1 -1 / 4", pairs("b|c|a|a|a", "a|b|c"));
        check.same("a line is in one pair alone", "-1 -1 1 / 5", pairs("c|b|a", "a|a|a|b"));
        Subject x = Edge.text("a|b|c", 1);
        Check.run(x, "w0;3m0;w1;%s/c/d/;w2");
        for (int again = 0; again < 2; again++) {
            check.same("with file 0", 2, x.differ(0));
            check.same("with file 1", 2, x.differ(1));
            check.same("with file 2", 0, x.differ(2));
            check.same("with file 3", 3, x.differ(3));
            check.same("a and file 0", 1, x.pairOf(0, 2));
            check.same("a and file 1", 2, x.pairOf(1, 2));
            check.same("a and file 3", -1, x.pairOf(3, 2));
        }
        check.same("the line is passed as soon as it may", "-1 -1 1 / 3", pairs("b|b|a", "a|c"));
    }

    private void soundness() {
        edge.sentence("promise 39: always true");
        Subject x = Edge.empties(40);
        Check.run(x, "1ka;40ke;%h;w0;%p;%p;1,20p");
        check.holds("as much as there may be", x.isSound());
        for (String orders : new String[] {"a", "%d", "H", "p", "1,2d;1t0;u", "%{d;a}", "9{9p}"}) {
            Check.run(x, orders);
            check.holds("behind " + orders, x.isSound());
            Check.stream(x, orders.equals("1,2d;1t0;u") ? "l" : orders);
            check.holds("line by line behind " + orders, x.isSound());
        }
        while (x.deeds() > 0) {
            x.undo();
            check.holds("behind undo()", x.isSound());
        }
    }
}
