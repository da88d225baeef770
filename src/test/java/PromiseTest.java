/** The promises 1 to 39, one by one: ordinary calls, the edges that the document names, and wrong arguments. */
public final class PromiseTest {
    private static final Class<IllegalArgumentException> IAE = IllegalArgumentException.class;
    private static final Class<IllegalStateException> ISE = IllegalStateException.class;
    private static final Class<IndexOutOfBoundsException> IOOBE = IndexOutOfBoundsException.class;

    private static final int[] BEYOND = {Integer.MIN_VALUE, -1, 4, 5, 1000, Integer.MAX_VALUE};

    private final Check check = new Check();

    public static void main(String[] args) {
        PromiseTest test = new PromiseTest();
        test.newObject();
        test.typing();
        test.wiping();
        test.faults();
        test.running();
        test.keeping();
        test.playing();
        test.streaming();
        test.reasons();
        test.scripts();
        test.undoing();
        test.undoingRuns();
        test.keptDeeds();
        test.theText();
        test.theMarks();
        test.sampling();
        test.whatIsHeld();
        test.theOut();
        test.theFiles();
        test.finding();
        test.differing();
        test.soundness();
        test.throwingChangesNothing();
        System.exit(test.check.close());
    }

    private void newObject() {
        check.topic("promise 1");
        Subject x = new Subject();
        check.same("lines", 0, x.lines());
        check.same("present", 0, x.present());
        check.same("deeds", 0, x.deeds());
        check.same("held", 0, x.held());
        check.same("outs", 0, x.outs());
        check.same("reason", 0, x.reason());
        check.same("wipe", 0, x.wipe());
        check.same("marks", "-1 -1 -1 -1 -1", Check.marks(x));
        for (int i = 0; i < 4; i++) {
            check.same("fileRows", 0, x.fileRows(i));
            check.same("scriptLength", -1, x.scriptLength(i));
        }
        check.same("lineOf", -1, x.lineOf(0));
        check.holds("isSound", x.isSound());
        Subject other = new Subject();
        Check.run(other, "ab");
        check.same("another object stays", 0, x.lines());
    }

    private void typing() {
        check.topic("promise 2");
        Subject x = new Subject();
        check.same("the first sign", 1, x.type(32));
        check.same("the second sign", 2, x.type(126));
        for (int sign : new int[] {31, 127, 0, -1, 97 + 256, Integer.MIN_VALUE, Integer.MAX_VALUE}) {
            check.throwing("type(" + sign + ")", IAE, () -> x.type(sign));
        }
        for (int i = 3; i <= 60; i++) {
            check.same("sign " + i, i, x.type('a'));
        }
        check.throwing("a 61st sign", ISE, () -> x.type('a'));
        check.throwing("a 61st sign that is none", IAE, () -> x.type(31));
        check.same("wipe", 60, x.wipe());
        check.same("behind wipe", 1, x.type('d'));
        check.same("the fault", -1, x.fault());
    }

    private void wiping() {
        check.topic("promise 3");
        Subject x = new Subject();
        check.same("an empty tape", 0, x.wipe());
        Check.type(x, "aab");
        x.run();
        check.same("the tape stays behind run()", 3, x.wipe());
        check.same("it is wiped", 0, x.wipe());
        Check.type(x, "aab");
        x.keep(0);
        x.find(false);
        check.same("the tape stays behind keep() and find()", 3, x.wipe());
        check.same("the fault of an empty tape", 0, x.fault());
    }

    private void faults() {
        check.topic("promise 4");
        check.same("fault of d", -1, Check.fault("d"));
        check.same("fault of d;", 2, Check.fault("d;"));
        check.same("fault of dx", 1, Check.fault("dx"));
        check.topic("promise 5");
        check.same("patternFault of a*", -1, Check.patternFault("a*"));
        check.same("patternFault of nothing", 0, Check.patternFault(""));
        check.same("patternFault of a/", 1, Check.patternFault("a/"));
    }

    private void running() {
        check.topic("promise 6");
        Subject x = new Subject();
        check.throwing("run() of an empty tape", ISE, x::run);
        check.same("one order", 1, Check.run(x, "aa|b|c"));
        check.same("the text", "a|b|c", Check.text(x));
        check.same("run() again", 1, x.run());
        check.same("twice", 6, x.lines());
        check.same("those in a block are not counted", 2, Check.run(x, "%{s/a/x/;s/x/y/};p"));
        check.same("those behind g are not counted", 2, Check.run(x, "g/y/s/y/z/;p"));
        check.same("one that is refused is not counted", 1, Check.run(x, "1p;9p;2p"));
        check.same("orders that a T goes back to count again", 6, Check.run(x, "1s/z/y/;:A;s/y/x/;TA"));
        Subject y = Check.with("aaa");
        check.same("an order that is come to twice counts twice", 10, Check.run(y, ":A;s/a/b/;TA;p"));
        check.same("no b is skipped", "bbb", Check.text(y));
        Check.type(x, "1;p");
        check.throwing("a fault", ISE, x::run);
    }

    private void keeping() {
        check.topic("promise 7");
        Subject x = new Subject();
        check.throwing("a fault", ISE, () -> x.keep(0));
        Check.type(x, "aab;d");
        check.same("keep", 5, x.keep(0));
        check.same("nothing is done", 0, x.lines());
        check.same("the length", 5, x.scriptLength(0));
        check.same("in place of what was there", 1, Check.keep(x, 0, "p"));
        check.same("the length then", 1, x.scriptLength(0));
        for (int script : BEYOND) {
            check.throwing("keep(" + script + ")", IOOBE, () -> x.keep(script));
        }
        Check.type(x, "x");
        check.throwing("a fault", ISE, () -> x.keep(1));
        check.throwing("no such script comes first", IOOBE, () -> x.keep(4));
        check.same("a script that was not kept", -1, x.scriptLength(1));
        check.same("the one that was", 1, x.scriptLength(0));
        StringBuilder long60 = new StringBuilder("a");
        while (long60.length() < 60) {
            long60.append(long60.length() % 30 == 0 ? '|' : 'x');
        }
        check.same("a tape of 60", 60, Check.keep(x, 3, long60.toString()));
        check.same("its last sign", 'x', x.scriptAt(3, 59));
    }

    private void playing() {
        check.topic("promise 8");
        Subject x = new Subject();
        Check.keep(x, 2, "$aa;p;9d");
        x.wipe();
        check.same("play", 2, x.play(2));
        check.same("the text", "a", Check.text(x));
        check.same("the reason", 1, x.reason());
        check.same("play again", 2, x.play(2));
        check.same("the text then", "a|a", Check.text(x));
        check.throwing("none kept", ISE, () -> x.play(0));
        for (int script : BEYOND) {
            check.throwing("play(" + script + ")", IOOBE, () -> x.play(script));
        }
        Check.keep(x, 2, ":A;bA");
        check.same("60 are come to", 60, x.play(2));
        check.same("the 61st is refused", 7, x.reason());
    }

    private void streaming() {
        check.topic("promise 9");
        Subject x = Check.with("a", "b");
        Check.keep(x, 0, "s/a/x/;g/b/{p;=};{p}");
        x.wipe();
        check.same("those behind g and in blocks count", 3 + 1 + 3 + 2 + 1, x.stream(0));
        check.same("the text", "x|b", Check.text(x));
        check.same("the out", "x|b|2|b", Check.out(x));
        check.same("refused", -1, Check.stream(x, "s/x/y/;u"));
        check.same("nothing is done", "x|b", Check.text(x));
        check.same("the reason", 5, x.reason());
        check.throwing("none kept", ISE, () -> x.stream(2));
        for (int script : BEYOND) {
            check.throwing("stream(" + script + ")", IOOBE, () -> x.stream(script));
        }
        Subject empty = new Subject();
        check.same("without lines none is come to", 0, Check.stream(empty, "q;p"));
        check.same("it is a deed all the same", 1, empty.deeds());
    }

    private void reasons() {
        check.topic("promise 10");
        Subject x = new Subject();
        check.same("ahead of all", 0, x.reason());
        Check.run(x, "d");
        check.same("no such line", 1, x.reason());
        Check.type(x, ";");
        check.throwing("a fault", ISE, x::run);
        check.same("it stays where run() throws", 1, x.reason());
        x.sample(1, 1);
        check.same("it stays with sample()", 1, x.reason());
        Check.run(x, "$aab");
        check.same("none refused", 0, x.reason());
        Check.run(x, "/q/d");
        check.same("a pattern is not found", 2, x.reason());
        x.undo();
        check.same("it stays with undo()", 2, x.reason());
        Check.run(x, "'ad");
        check.same("a mark at none", 3, x.reason());
        Check.run(x, "%>40");
        check.same("too long", 4, x.reason());
        Check.run(x, "u");
        check.same("nothing is held", 5, x.reason());
        Check.run(x, "bX");
        check.same("no such label", 6, x.reason());
        Check.run(x, ":X;bX");
        check.same("too many orders", 7, x.reason());
        Check.stream(x, "m0");
        check.same("not line by line", 8, x.reason());
        Check.stream(x, "p");
        check.same("played line by line", 0, x.reason());
    }

    private void scripts() {
        check.topic("promise 11");
        Subject x = new Subject();
        check.same("none was kept", -1, x.scriptLength(0));
        check.throwing("none was kept", IOOBE, () -> x.scriptAt(0, 0));
        Check.keep(x, 1, "a ;=");
        check.same("the length", 4, x.scriptLength(1));
        for (int script : BEYOND) {
            check.throwing("scriptLength(" + script + ")", IOOBE, () -> x.scriptLength(script));
        }
        check.topic("promise 12");
        check.same("sign 0", 'a', x.scriptAt(1, 0));
        check.same("sign 1", ' ', x.scriptAt(1, 1));
        check.same("sign 3", '=', x.scriptAt(1, 3));
        for (int place : BEYOND) {
            check.throwing("scriptAt(1, " + place + ")", IOOBE, () -> x.scriptAt(1, place));
        }
        for (int script : BEYOND) {
            check.throwing("scriptAt(" + script + ", 0)", IOOBE, () -> x.scriptAt(script, 0));
        }
        Check.keep(x, 1, "p");
        check.throwing("a sign of what was there", IOOBE, () -> x.scriptAt(1, 1));
        Check.type(x, "dd");
        check.same("the tape is another one", 'p', x.scriptAt(1, 0));
    }

    private void undoing() {
        check.topic("promise 13");
        Subject x = new Subject();
        check.throwing("none kept", ISE, x::undo);
        Check.run(x, "aa|b|c;2ka;1d");
        check.same("the text", "b|c", Check.text(x));
        check.same("undo", 2, x.undo());
        check.same("the text then", "a|b|c", Check.text(x));
        check.same("the ids", "0 1 2", Check.ids(x));
        check.same("the marks", "2 -1 -1 -1 -1", Check.marks(x));
        check.same("the present line", 3, x.present());
        check.same("undo again", 1, x.undo());
        check.same("the mark", -1, x.mark(0));
        check.same("undo the first", 0, x.undo());
        check.same("no lines", 0, x.lines());
        check.same("present", 0, x.present());
        check.throwing("none left", ISE, x::undo);
        Check.run(x, "ad");
        check.same("an id is not given again", 3, x.id(1));
        Check.run(x, "h;w0;p");
        while (x.deeds() > 0) {
            x.undo();
        }
        check.same("what is held stays", "d", Check.held(x));
        check.same("the files stay", "d", Check.file(x, 0));
        check.same("the out stays", "d", Check.out(x));
        check.same("the tape stays", 6, x.wipe());
    }

    private void undoingRuns() {
        check.topic("promise 14");
        Subject x = new Subject();
        check.throwing("none kept", ISE, x::undoRun);
        Check.run(x, "aa|b;1d;:A;2d");
        check.same("the text", "b", Check.text(x));
        Check.run(x, "$ac;$ad");
        x.sample(3, 2);
        Check.keep(x, 0, "s/b/x/");
        x.stream(0);
        x.play(0);
        check.same("deeds", 2 + 2 + 1 + 1 + 1, x.deeds());
        check.same("a script that was played", 1, x.undoRun());
        check.same("one line by line", 1, x.undoRun());
        check.same("a sample", 1, x.undoRun());
        check.same("the text then", "b|c|d", Check.text(x));
        x.undo();
        check.same("what is left of a run", 1, x.undoRun());
        check.same("the text left", "b", Check.text(x));
        check.same("a run in which one was refused", 2, x.undoRun());
        check.same("no deeds", 0, x.deeds());
        check.throwing("none left", ISE, x::undoRun);
        Subject y = new Subject();
        Check.run(y, "aa");
        Check.run(y, ":A;=;bA");
        check.same("at most 40 are kept", 30, y.undoRun());
    }

    private void keptDeeds() {
        check.topic("promise 15");
        Subject x = new Subject();
        Check.run(x, "aa;:A;bB;:B;TA;p;=;1N");
        check.same("a, p and = are deeds; : b T are none, N was refused", 3, x.deeds());
        Check.run(x, "1,1N");
        check.same("a refused order is none", 3, x.deeds());
        Check.run(x, "1q");
        check.same("q is none", 3, x.deeds());
        Check.run(x, "s/x/y/");
        check.same("one that changed nothing is one", 4, x.deeds());
        Check.run(x, "$ab;1N");
        check.same("N of a line that is not present is one", 6, x.deeds());
        Check.run(x, "%{p;p;p}");
        check.same("those in a block are part of its deed", 7, x.deeds());
        Check.run(x, ":A;=;bA");
        check.same("30 of a loop", 37 - 10, x.deeds() - 10);
        Check.run(x, "p;p;p;p");
        check.same("at most 40", 40, x.deeds());
        check.same("undo", 39, x.undo());
        x.sample(0, 1);
        check.same("a sample", 40, x.deeds());
        Subject y = new Subject();
        Check.run(y, "aa");
        Check.type(y, "z/abcdefghijklmnopqrstuvwxyz/bcdefghijklmnopqrstuvwxyza/");
        int turns = 0;
        for (int round = 0; round < 3; round++) {
            for (int deed = 0; deed < 45; deed++) {
                y.run();
            }
            turns += 45;
            check.same("45 deeds", 40, y.deeds());
            for (int left = 39; left >= 20; left--) {
                turns--;
                check.same("undo", left, y.undo());
                check.same("as it was ahead", 'a' + turns % 26, y.at(1, 0));
            }
            for (int left = 19; left >= 0; left--) {
                turns--;
                check.same("undoRun of one", 1, y.undoRun());
                check.same("as it was ahead", 'a' + turns % 26, y.at(1, 0));
            }
            check.throwing("the others were dropped", ISE, y::undo);
        }
    }

    private void theText() {
        check.topic("promises 16 to 21");
        Subject x = new Subject();
        check.throwing("length of line 0", IOOBE, () -> x.length(0));
        check.throwing("at(0, 0)", IOOBE, () -> x.at(0, 0));
        check.throwing("id(0)", IOOBE, () -> x.id(0));
        Check.run(x, "aab c||012345678901234567890123456789");
        check.same("lines", 3, x.lines());
        check.same("length(1)", 4, x.length(1));
        check.same("length(2)", 0, x.length(2));
        check.same("length(3)", 30, x.length(3));
        check.same("at(1, 0)", 'a', x.at(1, 0));
        check.same("at(1, 2)", ' ', x.at(1, 2));
        check.same("at(3, 29)", '9', x.at(3, 29));
        check.same("id(1)", 0, x.id(1));
        check.same("id(3)", 2, x.id(3));
        for (int line : BEYOND) {
            check.throwing("length(" + line + ")", IOOBE, () -> x.length(line));
            check.throwing("at(" + line + ", 0)", IOOBE, () -> x.at(line, 0));
            check.throwing("id(" + line + ")", IOOBE, () -> x.id(line));
            check.throwing("at(1, " + line + ")", IOOBE, () -> x.at(1, line));
            check.same("lineOf(" + line + ")", -1, x.lineOf(line));
        }
        check.throwing("at(2, 0)", IOOBE, () -> x.at(2, 0));
        check.throwing("at(3, 30)", IOOBE, () -> x.at(3, 30));
        check.same("lineOf(2)", 3, x.lineOf(2));
        Check.run(x, "3m0;2d");
        check.same("lineOf(2) behind m", 1, x.lineOf(2));
        check.same("lineOf(0) behind d", -1, x.lineOf(0));
        check.same("lineOf(1) behind d", 2, x.lineOf(1));
        check.same("present", 2, x.present());
        Check.run(x, "1p");
        check.same("present behind p", 1, x.present());
        Check.run(x, "%d");
        check.same("present without lines", 0, x.present());
        check.same("lines behind all are gone", 0, x.lines());
    }

    private void theMarks() {
        check.topic("promise 22");
        Subject x = Check.with("a", "b", "c");
        Check.run(x, "1ka;2kb;3kc;1kd;2ke");
        check.same("marks", "1 2 3 1 2", Check.marks(x));
        Check.run(x, "1m$");
        check.same("they stand at their lines", "3 1 2 3 1", Check.marks(x));
        Check.run(x, "1d");
        check.same("a line went", "2 -1 1 2 -1", Check.marks(x));
        Check.run(x, "%O0");
        check.same("sorted", "2 -1 1 2 -1", Check.marks(x));
        Check.run(x, "1cx");
        check.same("a line came in its place", "2 -1 -1 2 -1", Check.marks(x));
        for (int mark : new int[] {Integer.MIN_VALUE, -1, 5, 6, Integer.MAX_VALUE}) {
            check.throwing("mark(" + mark + ")", IOOBE, () -> x.mark(mark));
        }
    }

    private void sampling() {
        check.topic("promise 23");
        Subject x = new Subject();
        // The seeds behind 1: 39022, 61187, 40472, .. of which each lot takes a sixteenth.
        check.same("sample(1, 3)", 3, x.sample(1, 3));
        check.same("the lines", sampled(1, 3), Check.text(x));
        check.same("present", 3, x.present());
        check.same("behind the last", 5, x.sample(65535, 2));
        check.same("the lines then", sampled(1, 3) + "|" + sampled(65535, 2), Check.text(x));
        check.same("the ids", "0 1 2 3 4", Check.ids(x));
        check.throwing("seed -1", IAE, () -> x.sample(-1, 1));
        check.throwing("seed 65536", IAE, () -> x.sample(65536, 1));
        check.throwing("many 0", IAE, () -> x.sample(0, 0));
        check.throwing("many 21", IAE, () -> x.sample(0, 21));
        check.throwing("many -1", IAE, () -> x.sample(0, Integer.MIN_VALUE));
        check.throwing("many at most", IAE, () -> x.sample(0, Integer.MAX_VALUE));
        check.same("20 more", 25, x.sample(0, 20));
        check.same("15 more", 40, x.sample(9, 15));
        check.throwing("too many", ISE, () -> x.sample(9, 1));
        check.throwing("out of range comes first", IAE, () -> x.sample(9, 21));
        check.same("a deed each", 4, x.deeds());
        check.same("undone", 3, x.undo());
        check.throwing("16 would be too many", ISE, () -> x.sample(9, 16));
        check.same("15 again", 40, x.sample(9, 15));
        check.same("ids are not given again", 54, x.id(40));
    }

    private static String sampled(long seed, int many) {
        StringBuilder all = new StringBuilder();
        long lot = seed;
        for (int i = 0; i < many; i++) {
            lot = (lot * 25173 + 13849) % 65536;
            all.append(i == 0 ? "" : "|");
            for (long left = lot / 16 % 9; left > 0; left--) {
                lot = (lot * 25173 + 13849) % 65536;
                all.append("abcde ".charAt((int) (lot / 16 % 6)));
            }
        }
        return all.toString();
    }

    private void whatIsHeld() {
        check.topic("promises 24 to 26");
        Subject x = Check.with("ab", "", "c d");
        check.throwing("heldLength(1) of none", IOOBE, () -> x.heldLength(1));
        check.throwing("heldAt(1, 0) of none", IOOBE, () -> x.heldAt(1, 0));
        Check.run(x, "%h");
        check.same("held", 3, x.held());
        check.same("heldLength(1)", 2, x.heldLength(1));
        check.same("heldLength(2)", 0, x.heldLength(2));
        check.same("heldAt(3, 1)", ' ', x.heldAt(3, 1));
        check.same("heldAt(3, 2)", 'd', x.heldAt(3, 2));
        for (int row : new int[] {Integer.MIN_VALUE, -1, 0, 4, Integer.MAX_VALUE}) {
            check.throwing("heldLength(" + row + ")", IOOBE, () -> x.heldLength(row));
            check.throwing("heldAt(" + row + ", 0)", IOOBE, () -> x.heldAt(row, 0));
        }
        for (int place : new int[] {Integer.MIN_VALUE, -1, 2, 30, Integer.MAX_VALUE}) {
            check.throwing("heldAt(1, " + place + ")", IOOBE, () -> x.heldAt(1, place));
        }
        check.throwing("heldAt(2, 0)", IOOBE, () -> x.heldAt(2, 0));
        Check.run(x, "1h");
        check.same("no others are held", "ab", Check.held(x));
        check.throwing("heldLength(2) then", IOOBE, () -> x.heldLength(2));
    }

    private void theOut() {
        check.topic("promises 27 to 30");
        Subject x = Check.with("ab", "");
        check.same("outs", 0, x.outs());
        check.same("clearOut of none", 0, x.clearOut());
        Check.run(x, "%p;$=");
        check.same("outs", 3, x.outs());
        check.same("outLength(1)", 2, x.outLength(1));
        check.same("outLength(2)", 0, x.outLength(2));
        check.same("outLength(3)", 1, x.outLength(3));
        check.same("outAt(3, 0)", '2', x.outAt(3, 0));
        for (int row : new int[] {Integer.MIN_VALUE, -1, 0, 4, 101, Integer.MAX_VALUE}) {
            check.throwing("outLength(" + row + ")", IOOBE, () -> x.outLength(row));
            check.throwing("outAt(" + row + ", 0)", IOOBE, () -> x.outAt(row, 0));
        }
        for (int place : new int[] {Integer.MIN_VALUE, -1, 2, 30, Integer.MAX_VALUE}) {
            check.throwing("outAt(1, " + place + ")", IOOBE, () -> x.outAt(1, place));
        }
        check.throwing("outAt(2, 0)", IOOBE, () -> x.outAt(2, 0));
        check.same("clearOut", 3, x.clearOut());
        check.same("outs then", 0, x.outs());
        check.throwing("outLength(1) then", IOOBE, () -> x.outLength(1));
        check.same("deeds stay", 4, x.deeds());
        Check.run(x, ":A;%p;bA");
        check.same("60 rows of 30 rounds", 60, x.outs());
        check.same("and 40 of 20", 1 + 2 * 20, Check.run(x, ":A;%p;bA"));
        check.same("more are too many", 4, x.reason());
        check.same("100 rows", 100, x.outs());
        Check.run(x, "p");
        check.same("no more", 4, x.reason());
        check.same("still 100", 100, x.clearOut());
    }

    private void theFiles() {
        check.topic("promises 31 to 33");
        Subject x = Check.with("ab", "", "c d");
        Check.run(x, "w0;2,3w3;1w1");
        check.same("fileRows(0)", 3, x.fileRows(0));
        check.same("fileRows(1)", 1, x.fileRows(1));
        check.same("fileRows(2)", 0, x.fileRows(2));
        check.same("fileRows(3)", 2, x.fileRows(3));
        check.same("fileLength(0, 1)", 2, x.fileLength(0, 1));
        check.same("fileLength(3, 1)", 0, x.fileLength(3, 1));
        check.same("fileAt(3, 2, 1)", ' ', x.fileAt(3, 2, 1));
        check.same("fileAt(0, 3, 2)", 'd', x.fileAt(0, 3, 2));
        for (int file : BEYOND) {
            check.throwing("fileRows(" + file + ")", IOOBE, () -> x.fileRows(file));
            check.throwing("fileLength(" + file + ", 1)", IOOBE, () -> x.fileLength(file, 1));
            check.throwing("fileAt(" + file + ", 1, 0)", IOOBE, () -> x.fileAt(file, 1, 0));
            check.throwing("fileLength(0, " + file + ")", IOOBE, () -> x.fileLength(0, file));
            check.throwing("fileAt(0, " + file + ", 0)", IOOBE, () -> x.fileAt(0, file, 0));
            check.throwing("fileAt(0, 1, " + file + ")", IOOBE, () -> x.fileAt(0, 1, file));
        }
        check.throwing("fileLength(0, 0)", IOOBE, () -> x.fileLength(0, 0));
        check.throwing("fileLength(2, 1)", IOOBE, () -> x.fileLength(2, 1));
        check.throwing("fileAt(0, 2, 0)", IOOBE, () -> x.fileAt(0, 2, 0));
        check.throwing("fileAt(0, 1, 2)", IOOBE, () -> x.fileAt(0, 1, 2));
    }

    private void finding() {
        check.topic("promise 34");
        Subject x = Check.with("ab", "cd", "abb", "e");
        Check.run(x, "2p");
        Check.type(x, "ab");
        check.same("find(false)", 3, x.find(false));
        check.same("find(true)", 1, x.find(true));
        check.same("the present line stays", 2, x.present());
        Check.type(x, "^cd$");
        check.same("the present line last of all", 2, x.find(false));
        check.same("the present line last of all, back", 2, x.find(true));
        Check.type(x, "x");
        check.same("no line", -1, x.find(false));
        check.same("no line, back", -1, x.find(true));
        Check.type(x, "a(");
        check.throwing("a fault", ISE, () -> x.find(false));
        Subject empty = new Subject();
        check.throwing("an empty tape", ISE, () -> empty.find(true));
        Check.type(empty, "*");
        check.same("no lines", -1, empty.find(false));
        check.topic("promise 35");
        Check.type(x, "b*");
        check.same("findStart(1)", 1, x.findStart(1));
        check.same("findStart(2)", -1, x.findStart(2));
        check.same("findStart(3)", 1, x.findStart(3));
        check.topic("promise 36");
        check.same("findEnd(1)", 2, x.findEnd(1));
        check.same("findEnd(2)", -1, x.findEnd(2));
        check.same("findEnd(3)", 3, x.findEnd(3));
        for (int line : new int[] {Integer.MIN_VALUE, -1, 0, 5, Integer.MAX_VALUE}) {
            check.throwing("findStart(" + line + ")", IOOBE, () -> x.findStart(line));
            check.throwing("findEnd(" + line + ")", IOOBE, () -> x.findEnd(line));
        }
        Check.type(x, "**(");
        check.throwing("findStart with a fault", ISE, () -> x.findStart(1));
        check.throwing("findEnd with a fault", ISE, () -> x.findEnd(1));
        check.throwing("findStart: no such line comes first", IOOBE, () -> x.findStart(5));
        check.throwing("findEnd: no such line comes first", IOOBE, () -> x.findEnd(0));
    }

    private void differing() {
        check.topic("promise 37");
        Subject x = Check.with("a", "b", "c", "d");
        check.same("with an empty file", 4, x.differ(0));
        Check.run(x, "w0;w1");
        check.same("with itself", 0, x.differ(0));
        Check.run(x, "2d;1m$");
        check.same("the text", "c|d|a", Check.text(x));
        check.same("a went behind, b went", 3, x.differ(0));
        check.topic("promise 38");
        check.same("c", 3, x.pairOf(0, 1));
        check.same("d", 4, x.pairOf(0, 2));
        check.same("a", -1, x.pairOf(0, 3));
        check.same("a file of no rows", -1, x.pairOf(2, 1));
        Subject y = Check.with("b", "a");
        Check.run(y, "w0;1m$;w1;%d;r0");
        check.same("the text is b, a; the file a, b", "b|a", Check.text(y));
        check.same("alike: the line is passed", -1, y.pairOf(1, 1));
        check.same("the second line has the first row", 1, y.pairOf(1, 2));
        check.same("the rest", 2, y.differ(1));
        for (int file : BEYOND) {
            check.throwing("differ(" + file + ")", IOOBE, () -> x.differ(file));
            check.throwing("pairOf(" + file + ", 1)", IOOBE, () -> x.pairOf(file, 1));
        }
        for (int line : new int[] {Integer.MIN_VALUE, -1, 0, 4, Integer.MAX_VALUE}) {
            check.throwing("pairOf(0, " + line + ")", IOOBE, () -> x.pairOf(0, line));
        }
        Subject empty = new Subject();
        check.same("nothing and nothing", 0, empty.differ(3));
        check.throwing("pairOf without lines", IOOBE, () -> empty.pairOf(0, 1));
        Subject full = new Subject();
        full.sample(5, 20);
        full.sample(6, 20);
        Check.run(full, "w0;1,20m$");
        check.holds("40 lines and 40 rows", full.differ(0) <= 40 && full.differ(0) % 2 == 0);
    }

    private void soundness() {
        check.topic("promise 39");
        Subject x = new Subject();
        check.holds("a new object", x.isSound());
        x.sample(4, 20);
        x.sample(5, 20);
        check.holds("40 lines", x.isSound());
        Check.run(x, "1,5d;%H;:A;%p;bA");
        check.holds("much", x.isSound());
        x.undoRun();
        check.holds("undone", x.isSound());
    }

    private void throwingChangesNothing() {
        check.topic("part 0: a method that throws changes nothing");
        Subject x = Check.with("a", "b");
        Check.run(x, "1ka;h;w0;p");
        Check.type(x, "d;");
        String ahead = Check.text(x) + Check.ids(x) + Check.marks(x) + Check.held(x) + Check.out(x) + x.deeds();
        check.throwing("run", ISE, x::run);
        check.throwing("keep", ISE, () -> x.keep(0));
        check.throwing("play", ISE, () -> x.play(0));
        check.throwing("stream", ISE, () -> x.stream(0));
        check.throwing("type", IAE, () -> x.type(200));
        check.throwing("sample", IAE, () -> x.sample(0, 99));
        check.same("all", ahead,
            Check.text(x) + Check.ids(x) + Check.marks(x) + Check.held(x) + Check.out(x) + x.deeds());
        check.same("the tape", 2, x.wipe());
    }
}
