/** Boundaries that parts 1 and 4 name: how much there may be, and orders over the whole text. */
public final class EdgeWholeTest {
    private final Edge edge = new Edge();
    private final Check check = edge.check;

    public static void main(String[] args) {
        EdgeWholeTest test = new EdgeWholeTest();
        test.fortyLines();
        test.fortyLinesOfHeldAndFiles();
        test.ids();
        test.sameLines();
        test.presentLines();
        test.marks();
        test.heldRows();
        test.filesAndOut();
        test.thirtyCharacters();
        test.doneWhollyOrRefused();
        test.sixtyOrders();
        test.orderOfReasons();
        test.numbersOfAddresses();
        test.patternsOfAddresses();
        test.ranges();
        test.lineNone();
        test.textsWithoutLines();
        test.lineActs();
        test.joining();
        test.parting();
        test.leavingOut();
        test.telling();
        test.holding();
        test.shifting();
        test.sorting();
        test.moving();
        test.copying();
        test.marking();
        test.replacing();
        test.turning();
        test.filing();
        test.nothingElse();
        test.meeting();
        test.groupsThatAreRefused();
        test.ending();
        test.jumping();
        test.jumpingAfterReplacing();
        test.stepping();
        System.exit(test.check.close());
    }

    // ---- part 1: how much there may be

    private void fortyLines() {
        edge.sentence("1: the text has 0 to 40 lines");
        check.same("none at first", 0, new Subject().lines());
        for (String orders : new String[] {"a", "0a", "1i", "$i", "1c|", "2,3c||", "$c|", "1t0", "$t$", "5t4",
            "1{a}", "1g/^$/i", "2G/a/t."}) {
            Subject x = Edge.empties(39);
            edge.allowed(x, orders);
            check.same("40 lines by " + orders, 40, x.lines());
            edge.refused(Edge.empties(40), orders, 4);
        }
        for (String orders : new String[] {"1c", "%c", "1,2c|", "1{d;a}", "%m0", "%o0", "1j;a"}) {
            Subject x = Edge.empties(40);
            edge.allowed(x, orders);
        }
        edge.allowed(Edge.empties(20), "%t$");
        edge.allowed(Edge.empties(20), "%g/^$/t.");
        edge.refused(Edge.empties(21), "%t$", 4);
        edge.refused(Edge.empties(21), "%g/^$/t.", 4);
        edge.refused(Edge.empties(39), "a|", 4);
        edge.refused(Edge.empties(38), "1c|||", 4);
        edge.allowed(Edge.empties(38), "1c||");
        Subject parted = Edge.empties(39);
        Check.run(parted, "3cabc");
        edge.allowed(parted, "%v2");
        check.same("40 lines by v", 40, parted.lines());
        edge.refused(parted, "%v1", 4);
        edge.allowed(parted, "%v9");
        Subject two = Edge.empties(39);
        Check.run(two, "3,4cabc|de");
        edge.refused(two, "%v1", 4);
        edge.allowed(two, "4v1");
    }

    private void fortyLinesOfHeldAndFiles() {
        edge.sentence("1: the text has 0 to 40 lines, also by u, e and r");
        Subject x = Edge.empties(38);
        Check.run(x, "1,2h;1,2w0");
        edge.allowed(x, "$r0");
        check.same("40 lines by r", 40, x.lines());
        x.undo();
        edge.allowed(x, "0u");
        check.same("40 lines by u", 40, x.lines());
        edge.refused(x, "u", 4);
        edge.refused(x, "0r0", 4);
        edge.refused(x, "1e", 4);
        edge.allowed(x, "1,2e");
        edge.allowed(x, "$d");
        edge.refused(x, "u", 4);
        edge.refused(x, "r0", 4);
        edge.allowed(x, "1e");
        check.same("40 lines by e", 40, x.lines());
        edge.sentence("1: lines are numbered from 1, places from 0");
        edge.throwing(x, "length(0)", Edge.IOOBE, () -> x.length(0));
        edge.throwing(x, "length(41)", Edge.IOOBE, () -> x.length(41));
        check.same("length(1)", 0, x.length(1));
        check.same("length(40)", 0, x.length(40));
    }

    private void ids() {
        edge.sentence("1: ids are given from 0 on, in the order told; an id is never given again");
        Subject x = new Subject();
        edge.allowed(x, "aa|b|c");
        check.same("ids of a", "0 1 2", Check.ids(x));
        edge.allowed(x, "1id|e");
        check.same("ids of i", "3 4 0 1 2", Check.ids(x));
        edge.allowed(x, "%d;af");
        check.same("behind d", "5", Check.ids(x));
        x.undo();
        edge.allowed(x, "ag");
        check.same("behind undo()", "6", Check.ids(x));
        x.undoRun();
        x.sample(1, 2);
        check.same("behind undoRun()", "7 8", Check.ids(x));
        Check.stream(x, "1ah");
        check.same("behind stream()", "7 9 8", Check.ids(x));
        edge.sentence("1: but where an order is refused it has given none");
        String[] orders = {"{a;9p}", "%{i;/q/p}", "g/b/{a;'ap}", "1,3{a;9m0}", "%{c;9u}", "1{t0;9p}", "%{v1;v0;u}"};
        int[] why = {1, 2, 3, 1, 1, 1, 5};
        for (int i = 0; i < orders.length; i++) {
            Subject y = Check.with("abc", "", "bcd");
            edge.refused(y, orders[i], why[i]);
            edge.nextId(y, 3);
        }
        Subject full = Edge.empties(39);
        Check.run(full, "1,2cabc|abc");
        edge.refused(full, "%v1", 4);
        edge.nextId(full, 41);
        Subject z = Check.with("a", "b");
        edge.refusedByLine(z, "ax;iy;2u", 5);
        edge.nextId(z, 2);
        Subject w = Check.with("a");
        Check.run(w, "ab;9p;ac");
        check.same("those ahead of it have given theirs", "0 1", Check.ids(w));
    }

    private void sameLines() {
        edge.sentence("1: to change the row of a line leaves it the same line, with its id");
        Subject x = Check.with("ab", "b", "c");
        Check.run(x, "2kb");
        edge.allowed(x, "%s/b/x/;%z/x/y/;%>3;%<2;%s/*/z/");
        check.same("ids", "0 1 2", Check.ids(x));
        check.same("marks", "-1 2 -1 -1 -1", Check.marks(x));
        edge.allowed(x, "2j");
        check.same("ids of j", "0 1", Check.ids(x));
        check.same("the mark stays at f", 2, x.mark(1));
        edge.allowed(x, "2v1");
        check.same("ids of v", "0 1 3", Check.ids(x));
        check.same("the mark stays ahead of the rest", 2, x.mark(1));
        Check.stream(x, "s/z/q/;>1;<1;z/q/r/");
        check.same("ids line by line", "0 1 3", Check.ids(x));
        edge.sentence("1: all lines that come of nothing, of a row or as a copy are new ones");
        edge.allowed(x, "1t1;1h;1u;1w0;1r0;1e");
        check.same("ids of t, u, r, e", "7 6 5 4 1 3", Check.ids(x));
        edge.sentence("always (3): lines that are moved or sorted are the same lines");
        edge.allowed(x, "%O0;%o1;1,2m$;3m0");
        int all = 0;
        for (int id = 0; id < 8; id++) {
            all += x.lineOf(id) == -1 ? 0 : 1;
        }
        check.same("none is lost or doubled", 6, all);
        check.same("the lines", 6, x.lines());
    }

    private void presentLines() {
        edge.sentence("1: the present line is from 1 to how many lines there are; 0 if there are none");
        Subject x = new Subject();
        check.same("at first", 0, x.present());
        edge.allowed(x, "aa", "a @1");
        edge.allowed(x, "d", " @0");
        x.sample(1, 2);
        check.same("behind sample()", 2, x.present());
        edge.allowed(x, "1,2d", " @0");
        Check.stream(x, "aq");
        check.same("line by line, without lines", 0, x.present());
        Check.run(x, "ab|c");
        Check.stream(x, "d");
        check.same("line by line, all go", 0, x.present());
        x.undo();
        check.same("undone", 2, x.present());
    }

    private void marks() {
        edge.sentence("1: each mark stands at a line that is there, or at none, as all do at first");
        Subject x = new Subject();
        check.same("at first", "-1 -1 -1 -1 -1", Check.marks(x));
        edge.throwing(x, "mark(-1)", Edge.IOOBE, () -> x.mark(-1));
        edge.throwing(x, "mark(5)", Edge.IOOBE, () -> x.mark(5));
        for (int mark : Edge.NEVER) {
            edge.throwing(x, "mark(" + mark + ")", Edge.IOOBE, () -> x.mark(mark));
        }
        edge.allowed(x, "aa|b|c|c;1ka;2kb;3kc;4kd;4ke");
        check.same("all five", "1 2 3 4 4", Check.marks(x));
        edge.sentence("1: if its line goes, a mark stands at none");
        String[] orders = {"2d", "2cx", "1j", "1,2j", "2e", "3,4l", "2{d}", "g/b/d", "%d", "g/c/j"};
        String[] due = {"1 -1 2 3 3", "1 -1 3 4 4", "1 -1 2 3 3", "1 -1 2 3 3", "1 -1 3 4 4", "1 2 3 -1 -1",
            "1 -1 2 3 3", "1 -1 2 3 3", "-1 -1 -1 -1 -1", "1 2 3 -1 -1"};
        Check.run(x, "1h");
        for (int i = 0; i < orders.length; i++) {
            String ahead = Check.marks(x);
            edge.allowed(x, orders[i]);
            check.same("marks behind " + orders[i], due[i], Check.marks(x));
            x.undo();
            check.same("marks behind undo()", ahead, Check.marks(x));
            Check.run(x, "1h");
        }
        edge.allowed(x, "2d");
        edge.refused(x, "'bp", 3);
        edge.refused(x, "1,'bp", 3);
        edge.refused(x, "1m'b", 3);
        edge.allowed(x, "'ap;'cp;1m'c");
    }

    private void heldRows() {
        edge.sentence("1: held are 0 to 40 rows");
        Subject x = Edge.empties(40);
        edge.allowed(x, "%h");
        check.same("40 by h", 40, x.held());
        edge.refused(x, "1H", 4);
        edge.refused(x, "%H", 4);
        edge.allowed(x, "1,39h;1H");
        check.same("40 by H", 40, x.held());
        edge.allowed(x, "1,38h");
        edge.refused(x, "1,3H", 4);
        edge.allowed(x, "1,2H");
        edge.refused(x, "1g/^$/H", 4);
        Subject y = Edge.empties(40);
        edge.allowed(y, "%H");
        check.same("40 by H alone", 40, y.held());
        edge.throwing(y, "heldLength(41)", Edge.IOOBE, () -> y.heldLength(41));
        edge.throwing(y, "heldLength(0)", Edge.IOOBE, () -> y.heldLength(0));
        check.same("heldLength(40)", 0, y.heldLength(40));
        edge.refused(y, "1e", 4);
        edge.allowed(y, "%e");
        check.same("40 for 40", 40, y.held());
        edge.allowed(y, "1h;%e");
        check.same("40 held by e", 40, y.held());
        edge.allowed(y, "e");
        check.same("one held by e", 1, y.held());
    }

    private void filesAndOut() {
        edge.sentence("1: there are the files 0 to 3, each of 0 to 40 rows");
        Subject x = Edge.empties(40);
        edge.allowed(x, "w0;%w3;40w1");
        check.same("40 rows", 40, x.fileRows(0));
        check.same("40 rows by %", 40, x.fileRows(3));
        check.same("one row", 1, x.fileRows(1));
        check.same("none", 0, x.fileRows(2));
        for (int file : new int[] {-1, 4}) {
            edge.throwing(x, "fileRows(" + file + ")", Edge.IOOBE, () -> x.fileRows(file));
        }
        edge.sentence("1: the out has 0 to 100 rows");
        edge.allowed(x, "%p;%n;1,19p");
        check.same("99 rows", 99, x.outs());
        for (String orders : new String[] {"p", "n", "=", "1p", "40n", "%=", "{p}"}) {
            Subject y = Edge.empties(40);
            Check.run(y, "%p;%n;1,19p");
            edge.allowed(y, orders);
            check.same("100 rows by " + orders, 100, y.outs());
            edge.refused(y, orders, 4);
        }
        edge.refused(x, "1,2p", 4);
        edge.refused(x, "1,2n", 4);
        edge.refused(x, "{p;=}", 4);
        edge.refused(x, "%{=}", 4);
        edge.refused(x, "%p", 4);
        check.same("clearOut()", 99, x.clearOut());
        edge.allowed(x, "%p;%p;1,20p");
        check.same("100 rows", 100, x.outs());
    }

    private void thirtyCharacters() {
        edge.sentence("0: a row is 0 to 30 characters");
        String r28 = Edge.ROW30.substring(2);
        String r29 = Edge.ROW30.substring(1);
        edge.allowed(Check.with(r29), ">1", " " + r29 + " @1");
        edge.refused(Check.with(r29), ">2", 4);
        edge.refused(Check.with(Edge.ROW30), ">1", 4);
        edge.allowed(Check.with(Edge.ROW30), ">0");
        edge.allowed(Check.with(""), ">30", " ".repeat(30) + " @1");
        edge.refused(Check.with(""), ">31", 4);
        edge.refused(Check.with(""), ">99", 4);
        edge.allowed(Check.with(r29), "s/1/ab/", "ab" + r28 + " @1");
        edge.refused(Check.with(r29), "s/1/abc/", 4);
        edge.refused(Check.with(Edge.ROW30), "s/9/ab/3", 4);
        edge.refused(Check.with(Edge.ROW30), "s/$/a/", 4);
        edge.refused(Check.with(Edge.ROW30), "s/^/a/", 4);
        edge.allowed(Check.with(Edge.ROW30), "s/9/a/3", Edge.ROW30.substring(0, 29) + "a @1");
        edge.allowed(Check.with(Edge.ROW30), "s/*/&/g", Edge.ROW30 + " @1");
        edge.refused(Check.with(Edge.ROW30), "s/*/&&/g", 4);
        edge.allowed(Check.with(Edge.ROW30), "s/x/" + Edge.ROW30 + "/", Edge.ROW30 + " @1");
        edge.allowed(Check.with("a".repeat(15)), "s/a/&&/g", "a".repeat(30) + " @1");
        edge.refused(Check.with("a".repeat(16)), "s/a/&&/g", 4);
        edge.allowed(Check.with("ab"), "s/(a)b/" + "\\1".repeat(15) + "/", "a".repeat(15) + " @1");
        edge.allowed(Check.with("a"), "s/a/" + "b".repeat(30) + "/", "b".repeat(30) + " @1");
        edge.refused(Check.with("a"), "s/a/" + "b".repeat(31) + "/", 4);
        edge.allowed(Check.with("0".repeat(15), "1".repeat(15)), "1j", "0".repeat(15) + "1".repeat(15) + " @1");
        edge.refused(Check.with("0".repeat(15), "1".repeat(16)), "1j", 4);
        edge.refused(Check.with("0".repeat(15), "1".repeat(15), "2"), "%j", 4);
        edge.allowed(Check.with("0".repeat(15), "1".repeat(15), ""), "%j");
        edge.refused(Check.with("a", Edge.ROW30), "%>1", 4);
        edge.refused(Check.with("a", Edge.ROW30), "%s/[a0]/xx/", 4);
        edge.sentence("0: a row is 0 to 30 characters, also in the out");
        edge.allowed(Check.with(r28), "n", r28 + " @1");
        edge.refused(Check.with(r29), "n", 4);
        Subject x = Edge.empties(10);
        Check.run(x, "9c" + Edge.ROW30.substring(2));
        Check.run(x, "10c" + r28);
        edge.allowed(x, "9n");
        edge.refused(x, "10n", 4);
        edge.refused(x, "%n", 4);
        edge.refused(x, "9,10n", 4);
        Check.run(x, "10c" + Edge.ROW30.substring(3));
        edge.allowed(x, "%n");
    }

    // ---- part 4: orders, reasons, counts

    private void doneWhollyOrRefused() {
        edge.sentence("4: an order is done wholly, or is refused: nothing of it is done, and those behind are not done");
        Subject x = Check.with("a", Edge.ROW30);
        check.same("those ahead of it stay done", 2, Check.run(x, "1s/a/b/;1kc;%>1;1d"));
        check.same("the reason", 4, x.reason());
        check.same("the text", "b|" + Edge.ROW30 + " @1", Edge.state(x));
        check.same("the mark", 1, x.mark(2));
        edge.refused(x, "9p;d", 1);
        edge.refused(x, "1,2j", 4);
        edge.sentence("4: 0 tells that none was refused");
        edge.allowed(x, "p");
        edge.allowed(x, "s/q/r/");
        edge.allowed(x, "q;9p");
    }

    private void sixtyOrders() {
        edge.sentence("4: each order that is come to counts as one; a 61st one is refused, by 7");
        Subject x = Check.with("a");
        check.same("60 of a round", 60, Check.run(x, ":A;=;=;bA"));
        check.same("the 61st", 7, x.reason());
        check.same("those ahead of it stay done: = in 19 rounds of 3 and once more", 40, x.outs());
        Subject y = Edge.empties(29);
        check.same("1 and 29 times 2, and 1 more", 2, Check.run(y, "%{=;=};q"));
        check.same("60 are allowed", 0, y.reason());
        check.same("1 and 29 times 2, and 2 more", 2, Check.run(y, "%{>0;>0};p;q"));
        check.same("61 are not", 7, y.reason());
        check.same("the deed ahead of it is done", 59, y.outs());
        Subject z = Edge.empties(30);
        edge.refused(z, "%{>0;>0}", 7);
        check.same("58 ahead of 2 of the 29th", 0, Check.run(z, "%{>0;<0};p"));
        check.same("the 60th is one in a block", 2, Check.run(Edge.empties(29), "p;%{=;>0}"));
        check.same("the 61st is one in a block", 2, Check.run(Edge.empties(29), "p;=;%{=;>0}"));
        edge.sentence("4: also each behind g or G, for each line with which it is done");
        Subject g = Edge.empties(40);
        check.same("1 and 40, and 19 more", 20, Check.run(g, "%g/^$/>0" + ";=".repeat(19)));
        check.same("60 are allowed", 0, g.reason());
        check.same("1 and 40, and 20 more", 20, Check.run(g, "%G/a/>0" + ";=".repeat(20)));
        check.same("61 are not", 7, g.reason());
        check.same("lines that are not met do not count", 21, Check.run(g, "%g/a/>0" + ";=".repeat(20)));
        edge.sentence("4: a block behind g or G is none itself");
        Subject b = Edge.empties(29);
        check.same("1 and 29 times 2, and 1 more", 2, Check.run(b, "g/^$/{>0;<0};p"));
        check.same("60 are allowed", 0, b.reason());
        check.same("61 are not", 2, Check.run(b, "G/a/{>0;<0};p;p"));
        check.same("by 7", 7, b.reason());
        edge.sentence("4: 7 comes ahead of all");
        for (String last : new String[] {"30p", "'ap", "/x/p", "9m30", "u", "bX", ">99", "2,1d"}) {
            Subject o = Edge.empties(29);
            check.same("the 61st is " + last, 2, Check.run(o, "%{>0;<0};p;" + last));
            check.same("by 7", 7, o.reason());
            check.same("the 60th is " + last, 1, Check.run(o, "%{>0;<0};" + last));
            check.holds("not by 7, but " + o.reason(), o.reason() != 7 && o.reason() != 0);
        }
        Subject in = Edge.empties(30);
        edge.refused(in, "2,30{>0;.,29h}", 1);
        edge.refused(in, "%{>0;.,29h}", 7);
    }

    private void orderOfReasons() {
        edge.sentence("4: then those of its where: of the first address, of the second one, then of the range");
        String[] orders = {"'a,/x/p", "/x/,'ap", "9,'ap", "0,'ap", "2,'ap", "2,/x/p", "0,/x/p", "3,9p", "2,1p", "0,1p", "0,0p",
            "'a,9p", "/x/,9p", "9,/x/p"};
        int[] why = {3, 2, 1, 3, 3, 2, 2, 1, 1, 1, 1, 3, 2, 1};
        for (int i = 0; i < orders.length; i++) {
            edge.refused(Edge.text("a|b|c", 2), orders[i], why[i]);
        }
        edge.sentence("4: then that of the address behind m and t; then the others as they come in doing it");
        String[] targets = {"0m'a", "2,1m'a", "9m'a", "2m'a", "2m/x/", "2m9", "1,2m1", "2t'a", "2t?x?", "2t4", "'at/x/", "0t9"};
        int[] whys = {1, 1, 1, 3, 2, 1, 1, 3, 2, 1, 3, 1};
        for (int i = 0; i < targets.length; i++) {
            edge.refused(Edge.text("a|b|c", 2), targets[i], whys[i]);
        }
        Subject full = Edge.empties(40);
        edge.refused(full, "1t41", 1);
        edge.refused(full, "1t'a", 3);
        edge.refused(full, "1t40", 4);
        edge.refused(full, "u", 5);
        edge.refused(full, "e", 5);
        edge.refused(full, "41u", 1);
        edge.refused(full, "0e", 1);
        edge.refused(full, "'aa", 3);
        edge.refused(full, "41bX", 1);
        edge.refused(full, "bX", 6);
        Check.run(full, "1,2h");
        edge.refused(full, "u", 4);
        edge.refused(full, "1e", 4);
        edge.refused(full, "0,1u", 1);
    }

    private void numbersOfAddresses() {
        edge.sentence("4: what comes of an address is from 0 to how many lines there are, otherwise refused by 1");
        for (String orders : new String[] {"3p", "1p", "$p", "$+0p", "$-2p", "9-6p", "0+3p", ".+1p", ".-1p", "99-98p", "1-9+9p",
            "1,3p", "3,3p", "0a", "1-1a", "$-3a", ".-2a", "1m3", "1m0", "1t3", "3t0", "1m$-3", "'b-1p", "'b+1p", "/c/-2p",
            "/b/+1p", "'b-2a", ".,.+1p", "0r0", "0+0u"}) {
            Subject x = Edge.text("a|b|c", 2);
            Check.run(x, "2kb;h");
            edge.allowed(x, orders);
        }
        for (String orders : new String[] {"4p", "99p", "0p", "$+1p", "$-3p", "9-5p", "0+4p", ".+2p", ".-2p", "0-1a", "1-2a", "$-4a",
            ".-3a", "1,4p", "4,4p", "1m4", "1m1-2", "1t4", "1t0-1", "'b+2p", "'b-3a", "/c/+1p", "/c/-4a", ".,.+2p", "1,0-1p",
            "4a", "4r0", "4u", "$+1w0", "4g/a/d", "4q", "4b", "4N", "4T", "0q", "0b", "0N", "0T", "1,4q", "2,1q"}) {
            Subject x = Edge.text("a|b|c", 2);
            Check.run(x, "2kb;h");
            edge.refused(x, orders, 1);
        }
    }

    private void patternsOfAddresses() {
        edge.sentence("4: between slashes the next line behind the present one that holds it, going round, itself last of all");
        String[] lines = {"a|b|a", "a|b|a", "a|b|a", "b|b|a", "a|b|b", "a", "x|b|x"};
        int[] present = {1, 2, 3, 3, 1, 1, 2};
        int[] next = {3, 3, 1, 3, 1, 1, -1};
        int[] nearest = {3, 1, 1, 3, 1, 1, -1};
        for (int i = 0; i < lines.length; i++) {
            Subject x = Edge.text(lines[i], present[i]);
            String at = lines[i] + " at " + present[i];
            Check.type(x, "a");
            check.same("find(false) in " + at, next[i], x.find(false));
            check.same("find(true) in " + at, nearest[i], x.find(true));
            check.same("the present line stays", present[i], x.present());
            if (next[i] < 0) {
                edge.refused(x, "/a/p", 2);
                edge.refused(x, "?a?p", 2);
                edge.refused(x, "1,/a/p", 2);
            } else {
                edge.allowed(x, "/a/p", lines[i] + " @" + next[i]);
                Check.run(x, present[i] + "p");
                edge.allowed(x, "?a?p", lines[i] + " @" + nearest[i]);
            }
        }
        edge.allowed(Edge.text("a||b", 1), "/^$/p", "a||b @2");
        edge.allowed(Edge.text("a||b", 3), "?^$?p", "a||b @2");
        edge.allowed(Edge.text("a||b", 1), "/*/p", "a||b @2");
        edge.allowed(Edge.text("a||b", 3), "?()?p", "a||b @2");
        edge.sentence("4: without lines there is none");
        edge.refused(new Subject(), "/*/p", 2);
        edge.refused(new Subject(), "?^$?a", 2);
        edge.sentence("4: of ' and a mark the line at which it stands (refused by 3, if at none)");
        Subject x = Edge.text("a|b|c", 1);
        edge.refused(x, "'ap", 3);
        edge.allowed(x, "3ka;'ap", "a|b|c @3");
        edge.allowed(x, "1,2m$;'ap", "c|a|b @1");
    }

    private void ranges() {
        edge.sentence("4: the range is from the first address to the second, the first one not above the second one");
        edge.allowed(Edge.text("a|b|c", 1), "2,2d", "a|c @2");
        edge.allowed(Edge.text("a|b|c", 1), "2,3d", "a @1");
        edge.refused(Edge.text("a|b|c", 1), "3,2d", 1);
        edge.refused(Edge.text("a|b|c", 3), "$,.-1p", 1);
        edge.refused(Edge.text("a|b|c", 2), "$,/a/p", 1);
        edge.sentence("4: both are found from the present line as it is ahead of the order");
        edge.refused(Edge.text("p|b|a|b", 1), "/a/,/b/p", 1);
        edge.allowed(Edge.text("p|b|a|b", 2), "/a/,/b/p", "p|b|a|b @4");
        edge.allowed(Edge.text("a|b|c|d", 2), "1,.d", "c|d @1");
        edge.allowed(Edge.text("a|b|c|d", 2), "3,.+1d", "a|b|d @3");
        edge.sentence("4: with % from the first to the last line; with one address that line; without the present one");
        edge.allowed(Edge.text("a|b|c", 2), "%s/*/x/", "x|x|x @3");
        edge.allowed(Edge.text("a|b|c", 2), "1s/*/x/", "x|b|c @1");
        edge.allowed(Edge.text("a|b|c", 2), "s/*/x/", "a|x|c @2");
        edge.allowed(Edge.text("a|b|c", 2), "{s/*/x/}", "a|x|c @2");
        edge.allowed(Edge.text("a", 1), "%d", " @0");
        edge.sentence("4: for g, G and w all lines");
        edge.allowed(Edge.text("a|b|c", 2), "g/./s/*/x/", "x|x|x @3");
        edge.allowed(Edge.text("a|b|c", 2), "G/q/s/*/x/", "x|x|x @3");
        Subject x = Edge.text("a|b|c", 2);
        edge.allowed(x, "w1;.w2;{w3}");
        check.same("w", "a|b|c", Check.file(x, 1));
        check.same("w with one address", "b", Check.file(x, 2));
        check.same("w in a block", "a|b|c", Check.file(x, 3));
    }

    private void lineNone() {
        edge.sentence("4: a range whose first line is 0 is refused by 1");
        String[] acts = {"ix", "cx", "d", "j", "l", "p", "=", "n", "h", "H", "e", "q", "N", "v1", ">1", "<1", "o0", "O0", "m2", "t2",
            "ka", "w0", "b", "T", "bA", "s/a/b/", "z/a/b/", "g/a/p", "G/a/p", "{p}"};
        for (String act : acts) {
            Subject x = Edge.text("a|b|c", 2);
            Check.run(x, "1h");
            edge.refused(x, "0" + act, 1);
            edge.refused(x, "1-1" + act, 1);
            edge.refused(x, "0,1" + act, 1);
            edge.refused(x, "0,0" + act, 1);
        }
        edge.sentence("4: but with one address, or without a where, a, r and u are done behind 0");
        for (String act : new String[] {"ax", "r0", "u"}) {
            Subject x = Edge.text("a|b", 2);
            Check.run(x, "1cx;1w0;1h;1ca");
            edge.allowed(x, "0" + act, "x|a|b @1");
            x.undo();
            edge.allowed(x, "$-2" + act, "x|a|b @1");
            x.undo();
            edge.refused(x, "0,0" + act, 1);
            edge.refused(x, "0,1" + act, 1);
            edge.refused(x, "0,2" + act, 1);
            edge.allowed(x, "%d");
            edge.allowed(x, act, "x @1");
            x.undo();
            edge.allowed(x, "." + act, "x @1");
            x.undo();
            edge.allowed(x, "$" + act, "x @1");
            x.undo();
            edge.refused(x, "%" + act, 1);
            edge.refused(x, ".,$" + act, 1);
        }
    }

    private void textsWithoutLines() {
        edge.sentence("4: in a text without lines g, G and w, with % or without a where, have no lines");
        for (String orders : new String[] {"g/*/d", "%g/*/d", "G/a/d", "%G/a/{d}", "g/*/{9p;u}", "w2", "%w2"}) {
            Subject x = Check.with("a", "b");
            Check.run(x, "w2;%d");
            int deeds = x.deeds();
            edge.allowed(x, orders, " @0");
            check.same("it is a deed", deeds + 1, x.deeds());
            check.same("the file has no rows by w", orders.endsWith("w2") ? 0 : 2, x.fileRows(2));
        }
        for (String orders : new String[] {"1g/*/d", "0g/*/d", ".G/a/d", "$w2", "0w2", ".,$w2"}) {
            Subject x = Check.with("a", "b");
            Check.run(x, "w2;%d");
            edge.refused(x, orders, 1);
        }
        edge.sentence("4: all other orders with % are refused by 1 there");
        for (String act : new String[] {"ax", "ix", "cx", "d", "j", "l", "p", "=", "n", "h", "H", "u", "e", "q", "N", "v1", ">1", "<1",
            "o0", "O0", "m0", "t0", "ka", "r0", "b", "T", "bA", "s/a/b/", "z/a/b/", "{p}"}) {
            Subject x = new Subject();
            edge.refused(x, "%" + act, 1);
        }
        for (String orders : new String[] {"q", "b", "T", ":A", "TX", ":A;q;bA", "r0", "0r0"}) {
            edge.allowed(new Subject(), orders, " @0");
        }
        edge.refused(new Subject(), "bX", 6);
        edge.refused(new Subject(), "N", 1);
        edge.refused(new Subject(), "{p}", 1);
        edge.refused(new Subject(), "u", 5);
    }

    // ---- part 4: what the acts do

    private void lineActs() {
        edge.sentence("4, a, i, c: the last new line is the present one");
        edge.allowed(Edge.text("a|b|c", 1), "2ax|y", "a|b|x|y|c @4");
        edge.allowed(Edge.text("a|b|c", 1), "$ax", "a|b|c|x @4");
        edge.allowed(Edge.text("a|b|c", 1), "1,2ax", "a|b|x|c @3");
        edge.allowed(Edge.text("a|b|c", 3), "1ix|y", "x|y|a|b|c @2");
        edge.allowed(Edge.text("a|b|c", 3), "2,3ix", "a|x|b|c @2");
        edge.allowed(Edge.text("a|b|c", 1), "2cx", "a|x|c @2");
        edge.allowed(Edge.text("a|b|c", 1), "%cx|y|z|q", "x|y|z|q @4");
        edge.allowed(Edge.text("a|b|c", 1), "2,3c", "a| @2");
        edge.allowed(Edge.text("a|b|c", 1), "%c", " @1");
        edge.allowed(Edge.text("a|b|c", 2), "a|", "a|b|||c @4");
        edge.sentence("4, d: the line behind them is the present one; if there is none the last line, 0 if there is none at all");
        edge.allowed(Edge.text("a|b|c", 3), "1d", "b|c @1");
        edge.allowed(Edge.text("a|b|c", 1), "2d", "a|c @2");
        edge.allowed(Edge.text("a|b|c", 1), "3d", "a|b @2");
        edge.allowed(Edge.text("a|b|c", 1), "2,3d", "a @1");
        edge.allowed(Edge.text("a|b|c", 1), "1,2d", "c @1");
        edge.allowed(Edge.text("a", 1), "d", " @0");
    }

    private void joining() {
        edge.sentence("4, j: of a range of one line those of f and the line behind it (refused by 1 if there is none)");
        edge.allowed(Edge.text("a|b|c", 3), "1j", "ab|c @1");
        edge.allowed(Edge.text("a|b|c", 1), "2j", "a|bc @2");
        edge.refused(Edge.text("a|b|c", 1), "3j", 1);
        edge.refused(Edge.text("a|b|c", 3), "j", 1);
        edge.refused(Edge.text("a|b|c", 1), "3,3j", 1);
        edge.refused(Edge.text("a", 1), "%j", 1);
        edge.sentence("4, j: the rows of the range become the row of f; the other lines go; f is the present line");
        edge.allowed(Edge.text("a|b|c", 1), "1,2j", "ab|c @1");
        edge.allowed(Edge.text("a|b|c", 1), "2,3j", "a|bc @2");
        edge.allowed(Edge.text("a|b|c", 3), "%j", "abc @1");
        edge.allowed(Edge.text("|", 1), "j", " @1");
    }

    private void parting() {
        edge.sentence("4, v: of each line that has more characters than the number, those behind become a new line behind it");
        edge.allowed(Edge.text("abc|d", 2), "1v3", "abc|d @1");
        edge.allowed(Edge.text("abc|d", 2), "1v2", "ab|c|d @2");
        edge.allowed(Edge.text("abc|d", 2), "1v0", "|abc|d @2");
        edge.allowed(Edge.text("|d", 2), "1v0", "|d @1");
        edge.allowed(Edge.text(Edge.ROW30, 1), "v29", Edge.ROW30.substring(0, 29) + "|9 @2");
        edge.allowed(Edge.text(Edge.ROW30, 1), "v30", Edge.ROW30 + " @1");
        edge.allowed(Edge.text(Edge.ROW30, 1), "v99", Edge.ROW30 + " @1");
        edge.allowed(Edge.text(Edge.ROW30, 1), "v0", "|" + Edge.ROW30 + " @2");
        edge.sentence("4, v: the last line that comes of l is the present one; lines that are made are not met again");
        edge.allowed(Edge.text("abcd|ef|g", 1), "%v1", "a|bcd|e|f|g @5");
        edge.allowed(Edge.text("abcd|ef|g", 3), "1,2v1", "a|bcd|e|f|g @4");
        edge.allowed(Edge.text("abcd|ef|g", 3), "1,2v2", "ab|cd|ef|g @3");
    }

    private void leavingOut() {
        edge.sentence("4, l: each line whose row is that of the line ahead of it in the range that has stayed goes");
        edge.allowed(Edge.text("a|a|a|b|a", 1), "%l", "a|b|a @3");
        edge.allowed(Edge.text("a|a|a|b|a", 1), "2,3l", "a|a|b|a @2");
        edge.allowed(Edge.text("a|a|a|b|a", 5), "1,3l", "a|b|a @1");
        edge.allowed(Edge.text("a|a|b", 3), "2l", "a|a|b @2");
        edge.allowed(Edge.text("a|a|b", 1), "2,3l", "a|a|b @3");
        edge.allowed(Edge.text("a|a ||", 1), "%l", "a|a | @3");
        edge.allowed(Edge.text("ab|a|ab", 1), "%l", "ab|a|ab @3");
    }

    private void telling() {
        edge.sentence("4, p, n, =: the rows, the numbers and a blank ahead of each, the digits of l");
        Subject x = Edge.empties(10);
        Check.run(x, "9,10cx|");
        edge.allowed(x, "8,10p");
        check.same("p", "|x|", Check.out(x));
        check.same("l is the present line", 10, x.present());
        x.clearOut();
        edge.allowed(x, "2p;9,10n");
        check.same("n", "|9 x|10 ", Check.out(x));
        check.same("l is the present line", 10, x.present());
        x.clearOut();
        edge.allowed(x, "2p;9=;10=;1,3=;%=;=");
        check.same("=", "|9|10|3|10|2", Check.out(x));
        Subject full = Edge.empties(40);
        edge.allowed(full, "19=;20=;39=;40=;29,31n;40n");
        check.same("two digits", "19|20|39|40|29 |30 |31 |40 ", Check.out(full));
        check.same("the present line stays", 2, x.present());
        check.same("p of a row without characters", 0, x.outLength(1));
    }

    private void holding() {
        edge.sentence("4, h: held are the rows of the range, and no others; H: they are held, too, behind those that are");
        Subject x = Edge.text("a|b|c", 1);
        edge.allowed(x, "1,2h", "a|b|c @2");
        check.same("h", "a|b", Check.held(x));
        edge.allowed(x, "3h;1,2H", "a|b|c @2");
        check.same("H", "c|a|b", Check.held(x));
        edge.allowed(x, "2h");
        check.same("no others", "b", Check.held(x));
        edge.sentence("4, u and e: refused by 5, if nothing is held");
        Subject none = Edge.text("a|b|c", 1);
        for (String orders : new String[] {"u", "0u", "%u", "1,2u", "e", "%e", "2,3e"}) {
            edge.refused(none, orders, 5);
        }
        edge.allowed(none, "H");
        check.same("H of none held", "a", Check.held(none));
        edge.allowed(none, "%u", "a|b|c|a @4");
        edge.allowed(none, "0u", "a|a|b|c|a @1");
        edge.sentence("4, e: held are the rows of these then; the last new line is the present one");
        edge.allowed(none, "3,4h;2,4e", "a|b|c|a @3");
        check.same("e", "a|b|c", Check.held(none));
        edge.allowed(none, "%e", "a|b|c @3");
        check.same("e of all", "a|b|c|a", Check.held(none));
        edge.allowed(none, "1h;1e", "a|b|c @1");
        check.same("one for one", "a", Check.held(none));
    }

    private void shifting() {
        edge.sentence("4, >: the number tells how many blanks; <: as many as a row begins with, but no more than the number");
        edge.allowed(Edge.text("a|", 1), "%>2", "  a|   @2");
        edge.allowed(Edge.text("a|", 1), "1>0", "a| @1");
        edge.allowed(Edge.text("  a|b", 1), "1,2<1", " a|b @2");
        edge.allowed(Edge.text("  a|b", 1), "1<2", "a|b @1");
        edge.allowed(Edge.text("  a|b", 1), "1<3", "a|b @1");
        edge.allowed(Edge.text("  a|b", 2), "1<0", "  a|b @1");
        edge.allowed(Edge.text("  |", 2), "%<99", "| @2");
        edge.allowed(Edge.text("  |", 2), "1<1", " | @1");
        edge.allowed(Edge.text(" a b", 1), "<9", "a b @1");
        edge.allowed(Edge.text(" ".repeat(30), 1), "<30", " @1");
        edge.allowed(Edge.text(" ".repeat(30), 1), "<29", "  @1");
    }

    private void sorting() {
        edge.sentence("4, o: sign by sign by codes, a row that ends first ahead of one that goes on");
        edge.allowed(Edge.text("b|a|9|0| |", 1), "%o0", "| |0|9|a|b @6");
        edge.allowed(Edge.text("ab|a|aa|", 1), "%o0", "|a|aa|ab @4");
        edge.allowed(Edge.text("a |a|a0", 1), "%o0", "a|a |a0 @3");
        edge.allowed(Edge.text("ab|a|aa|", 1), "%O0", "ab|aa|a| @4");
        edge.sentence("4, o: from the place on that the number tells (nothing, if they are shorter)");
        edge.allowed(Edge.text("zb|b|ya|a", 1), "%o1", "b|a|ya|zb @4");
        edge.allowed(Edge.text("zb|b|ya|a", 1), "%O1", "zb|ya|b|a @4");
        edge.allowed(Edge.text("zb|b|ya|a", 1), "%o2", "zb|b|ya|a @4");
        edge.allowed(Edge.text("zb|b|ya|a", 1), "%O99", "zb|b|ya|a @4");
        String r29 = Edge.ROW30.substring(1);
        edge.allowed(Edge.text(r29 + "b|" + r29 + "a", 1), "%o29", r29 + "a|" + r29 + "b @2");
        edge.allowed(Edge.text(r29 + "b|" + r29 + "a", 1), "%o30", r29 + "b|" + r29 + "a @2");
        Subject full = Edge.empties(40);
        edge.allowed(full, "20ca;%o0");
        check.same("the last of 40 lines", 1, full.length(40));
        edge.allowed(full, "%O0");
        check.same("the first of 40 lines", 1, full.length(1));
        edge.allowed(full, "1m$");
        check.same("moved behind the last of 40 lines", 1, full.length(40));
        edge.allowed(full, "$m0");
        check.same("and ahead of the first", 1, full.length(1));
        check.same("the ids of 40 lines", 40, full.lineOf(39));
        edge.sentence("4, o, O: alike ones stay in their order; l is the present line");
        Subject x = Edge.text("xa|ya|xb|yb|za", 1);
        edge.allowed(x, "%o1");
        check.same("o", "0 1 4 2 3", Check.ids(x));
        edge.allowed(x, "%O1");
        check.same("O", "2 3 0 1 4", Check.ids(x));
        edge.allowed(Edge.text("c|b|a", 3), "1,2o0", "b|c|a @2");
        edge.allowed(Edge.text("c|b|a", 1), "2,3o0", "c|a|b @3");
        edge.allowed(Edge.text("c|b|a", 1), "2o0", "c|b|a @2");
    }

    private void moving() {
        edge.sentence("4, m: if the address is from f to l less 1, refused by 1; behind 0 is ahead of the first line");
        String[] due = {"c|d|a|b|e @2", "a|c|d|b|e @3", null, "a|b|c|d|e @4", "a|b|c|d|e @4", "a|b|e|c|d @5"};
        String[] targets = {"0", "1", "3", "2", "4", "5"};
        for (int i = 0; i < targets.length; i++) {
            Subject x = Edge.text("a|b|c|d|e", 1);
            if (due[i] == null) {
                edge.refused(x, "3,4m" + targets[i], 1);
            } else {
                edge.allowed(x, "3,4m" + targets[i], due[i]);
            }
        }
        edge.refused(Edge.text("a|b|c|d|e", 1), "2,4m2", 1);
        edge.refused(Edge.text("a|b|c|d|e", 1), "2,4m3", 1);
        edge.allowed(Edge.text("a|b|c|d|e", 1), "2,4m4", "a|b|c|d|e @4");
        edge.allowed(Edge.text("a|b|c|d|e", 1), "2,4m1", "a|b|c|d|e @4");
        edge.allowed(Edge.text("a|b|c|d|e", 5), "2m2", "a|b|c|d|e @2");
        edge.refused(Edge.text("a|b|c", 1), "%m1", 1);
        edge.refused(Edge.text("a|b|c", 1), "%m2", 1);
        edge.allowed(Edge.text("a|b|c", 1), "%m3", "a|b|c @3");
        edge.allowed(Edge.text("a|b|c", 1), "%m0", "a|b|c @3");
        edge.refused(Edge.text("a|b|c", 1), "1m4", 1);
        edge.allowed(Edge.text("a|b|c", 1), "1m3", "b|c|a @3");
        edge.sentence("4, m: the address is found as a second address would be");
        edge.allowed(Edge.text("a|b|c", 1), "3m.", "a|c|b @2");
        edge.allowed(Edge.text("b|a|b|c", 2), "4m/b/", "b|a|b|c @4");
        edge.allowed(Edge.text("b|a|b|c", 2), "4m?b?", "b|c|a|b @2");
    }

    private void copying() {
        Subject twice = Edge.text("a|b|c", 1);
        edge.allowed(twice, "3m0+1", "a|c|b @2");
        edge.allowed(twice, "3m0", "b|a|c @1");
        edge.allowed(twice, "1m.+1", "a|b|c @2");
        edge.allowed(twice, "1m.", "b|a|c @2");
        edge.sentence("4, t: copies are put there, wherever that is; the last one put there is the present line");
        edge.allowed(Edge.text("a|b|c", 1), "2,3t0", "b|c|a|b|c @2");
        edge.allowed(Edge.text("a|b|c", 1), "2,3t1", "a|b|c|b|c @3");
        edge.allowed(Edge.text("a|b|c", 1), "2,3t2", "a|b|b|c|c @4");
        edge.allowed(Edge.text("a|b|c", 1), "2,3t3", "a|b|c|b|c @5");
        edge.refused(Edge.text("a|b|c", 1), "2,3t4", 1);
        edge.allowed(Edge.text("a|b|c", 1), "2t2", "a|b|b|c @3");
        edge.sentence("4, t: the address is found as a second address would be");
        edge.allowed(Edge.text("a|b|c|d", 1), "2,3t.+1", "a|b|b|c|c|d @4");
        edge.allowed(Edge.text("b|a|c|b", 1), "2,3t?b?", "b|a|c|b|a|c @6");
        Subject x = Edge.text("a|b|c", 1);
        Check.run(x, "2kb;2t0;2t4");
        check.same("copies are new, marks stay", "3 0 1 2 4", Check.ids(x));
        check.same("the mark", 3, x.mark(1));
    }

    private void marking() {
        edge.sentence("4, k: the mark stands at l; the present line stays");
        Subject x = Edge.text("a|b|c", 1);
        edge.allowed(x, "2,3kb", "a|b|c @1");
        check.same("l", 3, x.mark(1));
        edge.allowed(x, "%kb;2kc", "a|b|c @1");
        check.same("l of %", 3, x.mark(1));
        edge.allowed(x, "1kb");
        check.same("a mark stands at one line", "-1 1 2 -1 -1", Check.marks(x));
        edge.allowed(x, "2ka;2kb");
        check.same("a line has several marks", "2 2 2 -1 -1", Check.marks(x));
    }

    private void replacing() {
        edge.sentence("4, s: the first find, with a digit the find of that number (from 1), with g each");
        edge.allowed(Edge.text("aaaaaaaaaa", 1), "s/a/b/", "baaaaaaaaa @1");
        edge.allowed(Edge.text("aaaaaaaaaa", 1), "s/a/b/1", "baaaaaaaaa @1");
        edge.allowed(Edge.text("aaaaaaaaaa", 1), "s/a/b/9", "aaaaaaaaba @1");
        edge.allowed(Edge.text("aaaaaaaaa", 1), "s/a/b/9", "aaaaaaaab @1");
        edge.allowed(Edge.text("aaaaaaaa", 1), "s/a/b/9", "aaaaaaaa @1");
        edge.allowed(Edge.text("aaaaaaaa", 1), "s/a/b/g", "bbbbbbbb @1");
        edge.allowed(Edge.text("a".repeat(30), 1), "s/a/b/g", "b".repeat(30) + " @1");
        edge.allowed(Edge.text("a".repeat(30), 1), "s/()/&/g", "a".repeat(30) + " @1");
        edge.allowed(Edge.text("a".repeat(30), 1), "s/aa//g", " @1");
        edge.sentence("4, s: & are the characters of the find, \\ and a digit those that its group fits, all else itself");
        edge.allowed(Edge.text("xaby", 1), "s/(a)(b)/\\2&\\1 1/", "xbaba 1y @1");
        edge.allowed(Edge.text("xy", 1), "s/()/&\\1/", "xy @1");
        edge.allowed(Edge.text("xy", 1), "s/x//", "y @1");
        edge.allowed(Edge.text("aabab", 1), "s/(a)(*)b/\\2/", "aba @1");
        edge.allowed(Edge.text("acad", 1), "s/(a)(.)/\\2\\1/g", "cada @1");
        edge.sentence("4, s: rows without such a find stay; l is the present line");
        edge.allowed(Edge.text("a|b|c", 1), "2,3s/c/d/", "a|b|d @3");
        edge.allowed(Edge.text("a|b|c", 3), "1,2s/c/d/", "a|b|c @2");
        edge.allowed(Edge.text("a|b|c", 3), "1s/a/d/2", "a|b|c @1");
        edge.allowed(Edge.text("a|b|c", 3), "%s/^$/d/", "a|b|c @3");
    }

    private void turning() {
        edge.sentence("4, z: if a character stands there more than once, by the first; l is the present line");
        edge.allowed(Edge.text("aab|ba", 1), "%z/aba/xyz/", "xxy|yx @2");
        edge.allowed(Edge.text("aab|ba", 2), "1z/ab/ba/", "bba|ba @1");
        edge.allowed(Edge.text("abcd", 1), "z/ab/cd/", "cdcd @1");
        edge.allowed(Edge.text("abcd", 1), "z/abcd/bcda/", "bcda @1");
        edge.allowed(Edge.text("a 9", 1), "z/ 9a/9a /", " 9a @1");
        edge.allowed(Edge.text("a|b", 1), "2z/c/d/", "a|b @2");
        edge.allowed(Edge.text(Edge.ROW30, 1), "z/9/x/", Edge.ROW30.replace('9', 'x') + " @1");
    }

    private void filing() {
        edge.sentence("4, r: the rows of the file become new lines behind l; without rows nothing is done");
        Subject x = Edge.text("a|b|c", 2);
        int deeds = x.deeds();
        edge.allowed(x, "r0", "a|b|c @2");
        edge.allowed(x, "1r0", "a|b|c @2");
        edge.allowed(x, "0r0", "a|b|c @2");
        edge.allowed(x, "%r0", "a|b|c @2");
        check.same("deeds that changed nothing", deeds + 4, x.deeds());
        edge.refused(x, "4r0", 1);
        edge.refused(x, "0,1r0", 1);
        edge.allowed(x, "1,2w0", "a|b|c @2");
        edge.allowed(x, "0r0", "a|b|a|b|c @2");
        edge.allowed(x, "1,4r0", "a|b|a|b|a|b|c @6");
        edge.sentence("4, w: the file has the rows of the range, and no others; the present line stays");
        edge.allowed(x, "1,3w0;$w0");
        check.same("no others", "c", Check.file(x, 0));
        check.same("the present line", 6, x.present());
        edge.allowed(x, "%w1");
        check.same("all", 7, x.fileRows(1));
        Check.run(x, "%d;w1");
        check.same("of a text without lines", 0, x.fileRows(1));
    }

    private void nothingElse() {
        edge.sentence("4: what the acts do, and nothing else");
        edge.changesOnly(false, "p = out", "1p = now out", "n = out", "= = out", "3= = out", "h = held", "1h = now held",
            "3h = now", "H = held", "3H = now held", "kb = marks", "ka = marks", "1ka = ", "s/b/x/ = text", "s/x/b/ = ",
            "1s/x/b/ = now", "z/b/x/ = text", "3z/b/x/ = now", ">1 = text", ">0 = ", "3<1 = now", "a = now text",
            "i = text", "1i = now text", "c = text", "1c = now text marks", "d = text", "1d = now text marks",
            "v0 = now text", "v1 = ", "3v1 = now", "j = text", "1j = now text", "2,3j = text", "%l = now", "1,2l = ",
            "1,2o0 = ", "1,2O0 = text", "%o0 = now", "m0 = now text", "m3 = now text", "2m2 = ", "t0 = now text",
            "u = now text", "r1 = now text", "0r1 = now text", "e = text held", "3e = now text", "1w0 = ", "w3 = ",
            "w2 = 2", "2w0 = 0", "{p} = out", "{w1} = 1", "g/b/p = out", "g/c/p = now out", "g/x/p = ", "G/./p = ",
            "q = ", "b = ", "bA;p;:A = ", "T = ", ":A = ", "N = now", "1N = ", "1q = ");
        Subject x = Edge.text("a|b|c", 2);
        Check.run(x, "1w0;1w1;2w2;3p");
        edge.allowed(x, "r3", "a|b|c @3");
        check.same("a file without rows stays", 0, x.fileRows(3));
    }

    private void meeting() {
        edge.sentence("4, g: the lines that hold the pattern are met (G: those that do not), as they are ahead of the order");
        edge.allowed(Edge.text("a|b|a", 2), "g/a/s/$/x/", "ax|b|ax @3");
        edge.allowed(Edge.text("a|b|a", 1), "G/a/s/$/x/", "a|bx|a @2");
        edge.allowed(Edge.text("a|b|a", 1), "g/b/%s/b/a/", "a|a|a @3");
        edge.allowed(Edge.text("a|b|b", 1), "g/a/%s/b/a/", "a|a|a @3");
        edge.allowed(Edge.text("a|b|b", 1), "g/b/%s/b/a&/", "a|aab|aab @3");
        edge.allowed(Edge.text("a|b|c", 1), "1,2g/[bc]/d", "a|c @2");
        edge.allowed(Edge.text("a|a|b", 1), "g/a/{%s/a/x/;$s/$/y/}", "x|x|byy @3");
        edge.allowed(Edge.text("b|b|c", 1), "G/a/{%s/./a/;$s/$/y/}", "a|a|ayyy @3");
        edge.sentence("4, g: if one is still there, it is made the present line");
        edge.allowed(Edge.text("a|a|b|a|c", 3), "g/a/.+1d", "a|b|a @3");
        edge.allowed(Edge.text("a|a|a|b", 4), "g/a/%d", " @0");
        edge.allowed(Edge.text("a|a|b", 3), "g/a/{1,2cx|y;p}", "x|y|b @2");
        edge.allowed(Edge.text("b|a|c", 1), "g/./m0", "c|a|b @1");
        edge.sentence("4, g: those of the block are done with it so: one by one, each may make another line present");
        edge.allowed(Edge.text("a|b", 1), "{ax;s/$/y/}", "a|xy|b @2");
        edge.allowed(Edge.text("a|b|c", 1), "{3p;s/$/x/}", "a|b|cx @3");
        edge.allowed(Edge.text("a|b|a", 1), "g/a/{ax;s/$/y/}", "a|xy|b|a|xy @5");
        edge.allowed(Edge.text("a|b|a", 2), "G/b/{ix;s/$/y/;.+1s/$/z/}", "xy|az|b|xy|az @5");
        edge.allowed(Edge.text("a|b|c", 1), "1,2{d;s/$/x/}", "cx @1");
        edge.refused(Edge.text("a|b|c", 1), "%{d;s/$/x/}", 1);
        edge.sentence("4, g: what they make or change is not met anew");
        edge.allowed(Edge.text("a|b|a", 1), "g/a/t.", "a|a|b|a|a @5");
        edge.allowed(Edge.text("a|b", 1), "g/a/ia", "a|a|b @1");
        edge.allowed(Edge.text("ab|b", 1), "g/b/s/$/b/", "abb|bb @2");
        edge.sentence("4, g: if none is met the present line stays");
        edge.allowed(Edge.text("a|b|c", 2), "g/q/d", "a|b|c @2");
        edge.allowed(Edge.text("a|b|c", 2), "G/*/d", "a|b|c @2");
        edge.allowed(Edge.text("a|b|c", 2), "3g/a/{d}", "a|b|c @2");
        edge.sentence("4, g: a block alone is done so with each line of the range");
        edge.allowed(Edge.text("a|b|c", 1), "2,3{s/$/x/;i}", "a||bx||cx @4");
        edge.allowed(Edge.text("a|b|c", 1), "{d;d}", "c @1");
        edge.allowed(Edge.text("a|b|c", 3), "1,2{.+1d}", "a|c @2");
        edge.allowed(Edge.text("a|b|c", 1), "1,2{d;p;$s/$/y/}", "cyy @1");
        edge.refused(Edge.text("a|b|c", 1), "%{d;p;$s/$/y/}", 1);
    }

    private void groupsThatAreRefused() {
        edge.sentence("4, g: if an order in it is refused, the whole is");
        String[] orders = {"g/a/{s/a/b/;kb;h;H;p;n;=;w0;r0;u;e;40p}", "%{p;2w0;.+1h}", "G/b/{d;ax;'ep}", "g/a/{ka;m9}",
            "{o0;v0;/q/p}", "g/a/3j", "%{%d;a;9p}", "%{2w1;w2;>99}", "1,2{H;H;%>0;%e;'bd}"};
        int[] why = {1, 1, 3, 1, 2, 1, 1, 4, 3};
        for (int i = 0; i < orders.length; i++) {
            Subject x = Edge.text("a|b|a", 2);
            Check.run(x, "1ka;1h;2w0;1p;2>0");
            edge.refused(x, orders[i], why[i]);
            edge.nextId(x, 3);
        }
        edge.refused(Edge.text("a|b|a", 1), "g/a/u", 5);
        edge.refused(Edge.text("a|b|a", 1), "{e}", 5);
        edge.refused(Edge.text("a|b|" + Edge.ROW30, 1), "g/[a9]/s/^/x/", 4);
        edge.allowed(Edge.text("a|b|a", 1), "%{%d}", " @0");
        Subject y = Edge.text("a|b|a", 1);
        check.same("orders ahead of it stay done", 1, Check.run(y, "2d;g/a/{d;p};1p"));
        check.same("by 1", 1, y.reason());
        check.same("the text", "a|a @2", Edge.state(y));
        check.same("the out", 0, y.outs());
    }

    private void ending() {
        edge.sentence("4, q: the orders end here");
        edge.allowed(Edge.text("a|b|c", 2), "q;9p", "a|b|c @2");
        edge.allowed(Edge.text("a|b|c", 2), "d;q;d", "a|c @2");
        edge.sentence("4: of q, b, T and N, with a where, nothing is done if the present line is not in the range");
        edge.allowed(Edge.text("a|b|c", 2), "2q;9p", "a|b|c @2");
        edge.allowed(Edge.text("a|b|c", 2), "1,2q;9p", "a|b|c @2");
        edge.allowed(Edge.text("a|b|c", 2), "2,3q;9p", "a|b|c @2");
        edge.allowed(Edge.text("a|b|c", 2), "%q;9p", "a|b|c @2");
        edge.allowed(Edge.text("a|b|c", 2), "1q;d", "a|c @2");
        edge.allowed(Edge.text("a|b|c", 2), "3q;d", "a|c @2");
        edge.allowed(Edge.text("a|b|c|d", 1), "2,3q;d", "b|c|d @1");
        edge.allowed(Edge.text("a|b|c|d", 4), "2,3q;d", "a|b|c @3");
        edge.allowed(Edge.text("a|b|c", 2), "1N;d", "a|c @2");
        edge.allowed(Edge.text("a|b|c", 3), "1,2N;d", "a|b @2");
        edge.allowed(Edge.text("a|b|c", 2), "1bX;d", "a|c @2");
        edge.allowed(Edge.text("a|b|c", 2), "s/b/d/;1,1TX;d", "a|c @2");
        edge.sentence("4: with a where, the range is found as for all others");
        edge.refused(Edge.text("a|b|c", 2), "/x/q", 2);
        edge.refused(Edge.text("a|b|c", 2), "'aT", 3);
        edge.refused(Edge.text("a|b|c", 2), "3,2b", 1);
        edge.refused(Edge.text("a|b|c", 2), "0,3N", 1);
        edge.sentence("4: an order : does nothing");
        edge.allowed(Edge.text("a|b|c", 2), ":A", "a|b|c @2");
        edge.allowed(new Subject(), ":Z", " @0");
    }

    private void jumping() {
        edge.sentence("4, b: goes on behind the first order : with the label; without a label the orders end here");
        edge.allowed(Edge.text("a|b|c", 1), "bA;9p;:A;d", "b|c @1");
        edge.allowed(Edge.text("a|b|c", 1), "bA;9p;:B;9p;:A;d;q;:A;9p", "b|c @1");
        edge.allowed(Edge.text("a|b|c", 1), "bA;9p;:A", "a|b|c @1");
        edge.allowed(Edge.text("a|b|c", 1), "b;9p;:A", "a|b|c @1");
        edge.allowed(Edge.text("a|b|c", 1), ":A;d;/c/bB;bA;:B", "c @1");
        check.same("a second : with the label", 4, Check.run(Edge.text("a|b|c", 1), ":A;p;:A;p"));
        edge.allowed(Edge.text("a|b|c", 1), ":A;d;:A;s/$/x/", "bx|c @1");
        edge.sentence("4: the reason 6 is told where a jump would be gone");
        edge.refused(Edge.text("a|b|c", 1), "bX", 6);
        edge.refused(Edge.text("a|b|c", 1), "%bX", 6);
        edge.refused(Edge.text("a|b|c", 1), "bX;:A", 6);
        edge.allowed(Edge.text("a|b|c", 1), "2bX", "a|b|c @1");
        edge.allowed(Edge.text("a|b|c", 1), "TX", "a|b|c @1");
        edge.allowed(Edge.text("a|b|c", 1), "q;bX", "a|b|c @1");
        Subject x = Edge.text("a|b|c", 1);
        check.same("s is done, TX is not", 1, Check.run(x, "s/a/d/;TX;d"));
        check.same("by 6", 6, x.reason());
        check.same("the text", "d|b|c @1", Edge.state(x));
        edge.allowed(x, "s/d/e/;2TX;d", "b|c @1");
    }

    private void jumpingAfterReplacing() {
        edge.sentence("4, T: does so, if s has replaced something, be it by the same, since these orders began");
        edge.allowed(Edge.text("a|b", 1), "s/a/a/;T;d", "a|b @1");
        edge.allowed(Edge.text("a|b", 1), "s/x/y/;T;d", "b @1");
        edge.allowed(Edge.text("a|b", 1), "s/a/x/2;T;d", "b @1");
        edge.allowed(Edge.text("a|b", 1), "s/()/&/;T;d", "a|b @1");
        edge.allowed(Edge.text("a|b", 1), "%s/b/x/;1T;2d", "a @1");
        edge.allowed(Edge.text("a|b", 2), "%s/a/x/;T;d", "x|b @2");
        edge.allowed(Edge.text("a|b", 1), "{s/a/x/};T;d", "x|b @1");
        edge.allowed(Edge.text("a|b", 1), "g/a/s/a/x/;T;d", "x|b @1");
        edge.allowed(Edge.text("a|b", 1), "G/b/{s/a/x/};T;d", "x|b @1");
        edge.allowed(Edge.text("a|b", 1), "z/a/x/;>1;T;d", "b @1");
        edge.allowed(Edge.text("a|b", 1), "s/a/x/;{p};T;d", "x|b @1");
        edge.allowed(Edge.text("a|b", 1), "s/a/x/;g/b/s/a/x/;T;d", "x|b @2");
        edge.allowed(Edge.text("a|b", 1), "s/a/x/;s/a/y/;T;d", "x|b @1");
        Subject x = Edge.text("a|b", 1);
        edge.allowed(x, "s/a/x/", "x|b @1");
        edge.allowed(x, "T;d", "b @1");
        edge.sentence("4, T: or since the last T that went on elsewhere");
        edge.allowed(Edge.text("ab", 1), "s/a/x/;TA;9p;:A;TB;s/b/y/;:B", "xy @1");
        edge.allowed(Edge.text("ab", 1), "s/a/x/;TA;9p;:A;s/b/y/;TB;9p;:B", "xy @1");
        edge.allowed(Edge.text("ab|c", 1), "s/a/x/;2TX;TA;9p;:A;s/c/d/;T;d", "c @1");
        edge.allowed(Edge.text("aaa", 1), ":A;s/a/b/;TA;s/b/c/;T;d", "cbb @1");
        edge.sentence("4, T: b changes nothing of that");
        edge.allowed(Edge.text("a|b", 1), "s/a/x/;bA;9p;:A;T;d", "x|b @1");
        edge.allowed(Edge.text("a|b", 1), "bA;9p;:A;T;d", "b @1");
    }

    private void stepping() {
        edge.sentence("4, N: the present line is 1 more (refused by 1, if there is none)");
        edge.allowed(Edge.text("a|b|c", 1), "N", "a|b|c @2");
        edge.allowed(Edge.text("a|b|c", 2), "N", "a|b|c @3");
        edge.refused(Edge.text("a|b|c", 3), "N", 1);
        edge.refused(Edge.text("a|b|c", 3), "%N", 1);
        edge.refused(Edge.text("a|b|c", 3), "3N", 1);
        edge.allowed(Edge.text("a|b|c", 3), "1,2N", "a|b|c @3");
        edge.allowed(Edge.text("a|b|c", 1), "N;N", "a|b|c @3");
        Subject x = Edge.text("a|b|c", 1);
        check.same("the third N is refused", 2, Check.run(x, "N;N;N;p"));
        check.same("by 1", 1, x.reason());
        check.same("those ahead stay done", 3, x.present());
        edge.refused(new Subject(), "N", 1);
    }
}
