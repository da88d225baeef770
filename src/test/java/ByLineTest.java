/** Part 5: what scripts do line by line. */
public final class ByLineTest {
    private final Check check = new Check();

    public static void main(String[] args) {
        ByLineTest test = new ByLineTest();
        test.wheres();
        test.runs();
        test.runsThatArePassed();
        test.putting();
        test.going();
        test.joining();
        test.holding();
        test.printing();
        test.files();
        test.groups();
        test.jumps();
        test.leaving();
        test.marks();
        test.refused();
        test.limits();
        test.deeds();
        System.exit(test.check.close());
    }

    private static String state(Subject x) {
        return Check.text(x) + " @" + x.present() + (x.reason() == 0 ? "" : " !" + x.reason());
    }

    /** Plays orders line by line with a text of these lines, of which the first is present. */
    private void plays(String lines, String orders, String due) {
        Subject x = Check.with(lines.split("\\|", -1));
        Check.run(x, "1p");
        x.clearOut();
        Check.stream(x, orders);
        check.same(orders + " with " + lines, due, state(x));
    }

    private void wheres() {
        check.topic("wheres line by line");
        plays("a|b|c", "s/*/x/", "x|x|x @3");
        plays("a|b|c", "%s/*/x/", "x|x|x @3");
        plays("a|b|c", "2s/*/x/", "a|x|c @3");
        plays("a|b|c", "$s/*/x/", "a|b|x @3");
        plays("a|b|c", "$-1s/*/x/", "a|x|c @3");
        plays("a|b|c", "1+1s/*/x/", "a|x|c @3");
        plays("a|b|c", "9s/*/x/", "a|b|c @3");
        plays("a|b|c", "0s/*/x/", "a|b|c @3");
        plays("a|b|c", "2-9s/*/x/", "a|b|c @3");
        plays("a|b|c", ".s/*/x/", "x|x|x @3");
        plays("a|b|c", "/[ac]/s/*/x/", "x|b|x @3");
        plays("a|b|c", "?[ac]?s/*/x/", "x|b|x @3");
        plays("a|b|c", "'as/*/x/", "a|b|c @3");
        plays("a|b|c", "s/a/b/;/b/s/b/c/;/c/s/c/d/", "d|d|d @3");
        plays("a|b|c", "2ax;$ay", "a|b|x|c|y @5");
    }

    private void runs() {
        check.topic("runs");
        plays("a|b|c|d", "2,3s/*/x/", "a|x|x|d @4");
        plays("a|b|c|d", "2,$s/*/x/", "a|x|x|x @4");
        plays("a|b|c|d", "3,2s/*/x/", "a|b|x|d @4");
        plays("a|b|c|d", "2,2s/*/x/", "a|x|c|d @4");
        plays("a|b|c|d", "2,0s/*/x/", "a|x|c|d @4");
        plays("a|b|c|d", "2,9s/*/x/", "a|x|x|x @4");
        plays("a|b|c|d", "0,2s/*/x/", "a|b|c|d @4");
        plays("a|b|c|d", "2,$-1s/*/x/", "a|x|x|d @4");
        plays("a|b|c|d", "/b/,/c/s/*/x&/", "a|xb|xc|d @4");
        plays("a|b|b|c|b|c|d", "/b/,/c/s/*/x&/", "a|xb|xb|xc|xb|xc|d @7");
        plays("b|b|b|a", "/b/,/b/s/*/x&/", "xb|xb|xb|xa @4");
        plays("b|b|b|b|a", "/b/,/b/s/^/x/", "xb|xb|xb|xb|a @5");
        plays("b|a|b|a", "/b/,/b/s/^/x/", "xb|xa|xb|a @4");
        plays("b|c|b|c", "/b/,2s/^/x/", "xb|xc|xb|c @4");
        plays("b|c|b|c", "1,/q/s/^/x/", "xb|xc|xb|xc @4");
        plays("a|b|c|d", "2,.s/^/x/", "a|xb|xc|d @4");
        plays("a|b|c|d", ".,.s/^/x/", "xa|xb|xc|xd @4");
        plays("a|b|c|d", "/b/,/c/d", "a|d @2");
        plays("a|b|c|d", "s/b/c/;/c/,/d/s/^/x/", "a|xc|xc|xd @4");
        Subject x = Check.with("a", "b", "c", "d");
        Check.run(x, "2ka;3kb");
        Check.stream(x, "'a,'bs/^/x/");
        check.same("by marks", "a|xb|xc|d @4", state(x));
        Check.stream(x, "'d,'as/^/y/");
        check.same("a mark at none does not hold", "a|xb|xc|d @4", state(x));
    }

    private void runsThatArePassed() {
        check.topic("runs that are not come to");
        // Line 3 is not come to, for the order ends ahead; line 4 is above the end of the run by then.
        plays("a|b|c|d|e", "3b;2,3s/^/x/", "a|xb|c|d|e @5");
        plays("a|b|c|d|e", "3,4b;2,4s/^/x/", "a|xb|c|d|e @5");
        plays("a|b|c|d|e", "3b;2,4s/^/x/", "a|xb|c|xd|e @5");
        plays("b|c|b|c|b", "2b;/b/,2s/^/x/", "xb|c|xb|c|xb @5");
        plays("b|a|c|a|c", "3b;/b/,/c/s/^/x/", "xb|xa|c|xa|xc @5");
        // Within one work a run is found once, though the work changes.
        plays("b|c", ":A;/b/,/c/s/^/x/2;s/b/bb/;/bbbb/b;/b/bA", "bbbb|c @2");
        Subject x = Check.with("b", "c", "b", "e");
        Check.stream(x, "j;1,2s/^/x/;3,9s/^/y/");
        check.same("the number of a joined work", "bc|be @2", state(x));
        Subject y = Check.with("a", "b", "c", "d");
        Check.stream(y, "1j;2,3s/^/x/");
        check.same("number 2 behind j", "xab|xc|d @3", state(y));
        Subject z = Check.with("a", "b", "c", "d");
        Check.stream(z, "1,2s/^/x/;1j;1,2s/^/y/");
        check.same("each order has its run", "xab|c|d @3", state(z));
        plays("a|a", ":A;1,$s/$/x/;/xxx/b;bA", "axxx|axxx @2");
        plays("a|b", ":A;/x/,/y/s/$/z/;s/$/x/;/xx/b;bA", "axx|bxx @2");
        plays("a|b", ":A;1,/y/s/$/y/;s/$/x/;/x*x/b;bA", "ayxyx|byxyx @2");
        Subject once = Check.with("a", "a");
        Check.stream(once, ":A;1,$s/a/b/;s/b/c/;TA");
        check.same("come to again it holds as it was found", "c|c @2", state(once));
        Subject again = Check.with("a", "c");
        Check.stream(again, ":A;/a/,/q/s/$/x/;s/a/b/;TB;b;:B;/xx/b;bA");
        check.same("as it was found then", "bxx|cxx @2", state(again));
        Subject one = Check.with("a", "c");
        Check.stream(one, ":A;/a/s/$/x/;s/a/b/;TA");
        check.same("a where with one address is looked at each time", "bx|c @2", state(one));
    }

    private void putting() {
        check.topic("a i r u v");
        plays("a|b", "ax|y", "a|x|y|b|x|y @6");
        plays("a|b", "ix|y", "x|y|a|x|y|b @6");
        plays("a|b", "ax;iy;az", "y|a|x|z|y|b|x|z @8");
        plays("abc|d", "v1;s/a/x/", "x|bc|d @3");
        plays("abc|d", "v1;v0", "|bc|a||d @5");
        plays("abc|d", "v3", "abc|d @2");
        Subject x = Check.with("a", "b");
        Check.run(x, "1,2h;2w1");
        Check.stream(x, "1u;2r1;2r0;aq");
        check.same("u and r are due", "a|a|b|q|b|b|q @7", state(x));
        check.same("ids as they are put", "0 2 3 4 1 5 6", Check.ids(x));
        check.same("held stays", "a|b", Check.held(x));
        Subject y = Check.with("a", "b");
        Check.stream(y, "ap;iq;v0");
        check.same("the text", "q|" + "|p|a|q||p|b", Check.text(y));
        check.same("ids of i come first", "2 0 3 4 5 1 6 7", Check.ids(y));
    }

    private void going() {
        check.topic("c d");
        plays("a|b|c", "2d", "a|c @2");
        plays("a|b|c", "d", " @0");
        plays("a|b|c", "2cx|y", "a|x|y|c @4");
        plays("a|b|c", "cx", "x|x|x @3");
        plays("a|b|c|d", "2,3cx", "a|x|d @3");
        plays("a|b|c|d", "2,9cx", "a @1");
        plays("a|b|c|d", "3,2cx", "a|b|x|d @4");
        plays("a|b|c|d", "2,2cx", "a|x|c|d @4");
        plays("a|b|c|d", "/b/,2cx", "a|x|c|d @4");
        plays("a|b|c|d", "/b/,/c/cx|y", "a|x|y|d @4");
        plays("a|b|c|d", "%cx", "x|x|x|x @4");
        plays("a|b|c|d", "2ax;2d;2ay", "a|x|c|d @4");
        plays("a|b|c|d", "2ax;2iy;2cz", "a|y|z|x|c|d @6");
        plays("a|b", "{ax;d;ay};az", "x|x @2");
        plays("a|b", "g/a/{cx;ay};s/b/z/", "x|z @2");
        Subject x = Check.with("a", "b", "c");
        check.same("behind d no orders are come to", 1 + 3 + 3, Check.stream(x, "1d;p;p"));
        check.same("the out", "b|b|c|c", Check.out(x));
        check.same("the lines are the same", "1 2", Check.ids(x));
    }

    private void joining() {
        check.topic("j");
        plays("a|b|c", "j", "ab|c @2");
        plays("a|b|c|d", "j", "ab|cd @2");
        plays("a|b|c", "1j;j", "abc @1");
        plays("a|b|c", "1{j;j;j}", "abc @1");
        plays("a|b|c", "$j", "a|b|c @3");
        plays("a", "j;s/a/x/", "x @1");
        plays("a|b|c", ":A;j;$b;bA", "abc @1");
        plays("a|b|c", "1j;2s/$/x/;3s/$/y/", "abx|cy @2");
        plays("012345678901234|012345678901234|x", "1j", "012345678901234012345678901234|x @2");
        plays("012345678901234|0123456789012345|x", "1j", "012345678901234|0123456789012345|x @1 !4");
        Subject x = Check.with("a", "b", "c");
        Check.run(x, "1ka;2kb;3kc");
        Check.stream(x, "1j;=");
        check.same("the marks", "1 -1 2 -1 -1", Check.marks(x));
        check.same("the number is that of the line that came", "2|3", Check.out(x));
        check.same("the ids", "0 2", Check.ids(x));
    }

    private void holding() {
        check.topic("h H e");
        Subject x = Check.with("a", "b", "c");
        Check.stream(x, "h");
        check.same("h", "c", Check.held(x));
        Check.stream(x, "H");
        check.same("H", "c|a|b|c", Check.held(x));
        check.same("e with 4 rows", -1, Check.stream(x, "e"));
        check.same("is refused", 5, x.reason());
        Check.stream(x, "1h;2,3e");
        check.same("e", "a|a|b @3", state(x));
        check.same("held", "c", Check.held(x));
        check.same("the same lines", "0 1 2", Check.ids(x));
        Subject y = Check.with("a", "b");
        check.same("e with none", -1, Check.stream(y, "2e"));
        check.same("is refused", 5, y.reason());
        check.same("u with none", -1, Check.stream(y, "u"));
        check.same("is refused", 5, y.reason());
        check.same("where it does not hold it is not", 2, Check.stream(y, "9u"));
        Check.stream(y, "1h;1d;$u");
        check.same("a line is brought behind the last one", "b|a @2", state(y));
    }

    private void printing() {
        check.topic("p n = z > <");
        Subject x = Check.with("a", "b");
        Check.stream(x, "p;n;=;s/*/x/;p");
        check.same("the out", "a|1 a|1|x|b|2 b|2|x", Check.out(x));
        x.clearOut();
        Check.stream(x, "1ay;n");
        check.same("numbers are those at the beginning", "1 x|2 x", Check.out(x));
        plays("ab|ba", "z/ab/ba/", "ba|ab @2");
        plays(" a|b", ">2;<1", "  a| b @2");
    }

    private void files() {
        check.topic("r w");
        Subject x = Check.with("a", "b", "c");
        Check.run(x, "w0;w1");
        Check.stream(x, "/[ac]/w0");
        check.same("w", "a|c", Check.file(x, 0));
        check.same("another file stays", "a|b|c", Check.file(x, 1));
        Check.stream(x, "9w1");
        check.same("a file that is named has no rows at the beginning", 0, x.fileRows(1));
        Check.stream(x, "9{w0}");
        check.same("also in a block", 0, x.fileRows(0));
        Check.stream(x, "w2;s/$/x/;w2;$r2");
        check.same("twice", "a|ax|b|bx|c|cx", Check.file(x, 2));
        check.same("r has what is there by then", "ax|bx|cx|a|ax|b|bx|c|cx @9", state(x));
        check.same("refused", -1, Check.stream(x, "w2;$u"));
        check.same("the file is as it was", "a|ax|b|bx|c|cx", Check.file(x, 2));
        Subject y = new Subject();
        Check.run(y, "aa;w0;d");
        Check.stream(y, "w0");
        check.same("without lines", 0, y.fileRows(0));
    }

    private void groups() {
        check.topic("g G { }");
        plays("a|b|a", "g/a/s/a/x/", "x|b|x @3");
        plays("a|b|a", "G/a/s/*/x/", "a|x|a @3");
        plays("a|b|a", "{s/a/b/;s/b/c/}", "c|c|c @3");
        plays("a|b|a", "2{s/b/c/;s/c/d/}", "a|d|a @3");
        plays("a|b|a", "g/./2s/b/x/", "a|x|a @3");
        plays("a|b|a", "g/./{1,2s/^/x/;/b/s/$/y/}", "xa|xby|a @3");
        plays("a|b|a", "2,3g/a/ax", "a|b|a|x @4");
        plays("a|b|a", "g/a/{ax;d};s/b/y/", "x|y|x @3");
        Subject x = Check.with("a", "b");
        check.same("those of a block are come to only in it", 2 + 2 + 2, Check.stream(x, "g/a/{p;=};p"));
    }

    private void jumps() {
        check.topic(": b T q");
        plays("a|b|c", "2b;s/*/x/", "x|b|x @3");
        plays("a|b|c", "2bA;s/*/x/;:A;s/$/y/", "xy|by|xy @3");
        plays("aaa|aba", ":A;s/a/x/;TA", "xxx|xbx @2");
        plays("a|b|a", "s/a/x/;T;s/$/y/", "x|by|x @3");
        plays("a|b|a", "s/a/a/;TA;s/$/y/;:A;s/$/z/", "az|byz|az @3");
        plays("a|b|a", "1s/a/x/;:B;TA;s/$/y/;:A;TC;b;:C;s/$/q/", "x|byq|ayq @3");
        plays("a|b|c", "bQ", "a|b|c @1 !6");
        plays("a|b|c", "TQ", "a|b|c @3");
        plays("a|b|c", "9bQ", "a|b|c @3");
        plays("a|b|c", "3s/c/x/;TQ", "a|b|c @1 !6");
        plays("a|b|c", "s/*/x/;2q", "x|x|c @3");
        plays("a|b|c", "2ay;2q;s/*/x/", "x|b|y|c @4");
        plays("a|b|c", "q", "a|b|c @3");
        plays("a|b|c", "/b/q;d", "b|c @2");
        Subject x = Check.with("a", "b", "c");
        Check.run(x, "3ka");
        check.same("behind q none is come to", 3 + 2, Check.stream(x, "p;2q;="));
        check.same("the marks", 3, x.mark(0));
    }

    private void leaving() {
        check.topic("N");
        plays("a|b|c|d", "N;s/*/x/", "a|x|c|x @4");
        plays("a|b|c", "N;s/*/x/", "a|x|c @3");
        plays("a|b|c", "ay;N;s/*/x/;az", "a|y|x|z|c|y @6");
        plays("a|b|c|d", "1N;s/*/x/", "a|x|x|x @4");
        plays("a|b|c|d", "N", "a|b|c|d @4");
        plays("a|b|c|d", "N;N;N;N;d", "a|b|c|d @4");
        plays("a|b|c|d", "s/a/x/;N;T;s/$/y/", "x|by|c|dy @4");
        plays("a|b|c|d", ":A;N;bA", "a|b|c|d @4");
        plays("a|b|c|d", "1,2s/^/x/;N;1,2s/^/y/", "xa|b|c|d @4");
        plays("a|b|c|d", "N;d", "a|c @2");
        Subject x = Check.with("a", "b", "c");
        check.same("orders that are come to", 3 + 2, Check.stream(x, "=;N;="));
        check.same("the numbers", "1|2|3", Check.out(x));
    }

    private void marks() {
        check.topic("marks");
        Subject x = Check.with("a", "b", "c");
        Check.run(x, "1ka;2kb;3kc");
        Check.stream(x, "ix;2d");
        check.same("marks go with their lines", "2 -1 5 -1 -1", Check.marks(x));
        check.same("the text", "x|a|x|x|c", Check.text(x));
        Check.stream(x, "/a/ke;/c/kd;'es/a/q/");
        check.same("k", "2 -1 5 5 2", Check.marks(x));
        check.same("a mark holds for the work at which it stands", "x|q|x|x|c", Check.text(x));
        Check.stream(x, "'ed;'as/*/z/");
        check.same("its line went", "-1 -1 4 4 -1", Check.marks(x));
        check.same("no line", "x|x|x|c", Check.text(x));
        Check.stream(x, "ka");
        check.same("k by each work", 4, x.mark(0));
        Check.stream(x, "2ka;2cy");
        check.same("k and c", "-1 -1 4 4 -1", Check.marks(x));
        x.undo();
        check.same("undone", "4 -1 4 4 -1", Check.marks(x));
    }

    private void refused() {
        check.topic("refused line by line");
        for (String orders : new String[] {"l", "o0", "O3", "m0", "t$", ".+1p", ".-0p", "'a+1p", "/a/+1p", "?a?-2p",
            "1,.+1p", "'a-1,$p", "9l", "9,9m0", "1,/q/-1p", "{l}", "g/a/t0", "$,.-1p"}) {
            plays("a|b", orders, "a|b @1 !8");
        }
        plays("a|b", "b;l", "a|b @2");
        plays("a|b", "9{l}", "a|b @2");
        plays("a|b", "g/q/m0", "a|b @2");
        plays("a|b", "2u;l", "a|b @1 !8");
        plays("a|b", "u;l", "a|b @1 !5");
        Subject x = Check.with("a", "b");
        Check.run(x, "1ka");
        check.same("refused", -1, Check.stream(x, "s/*/x/;h;p;w0;ke;ay;iz;2u;2bX"));
        check.same("the text stays", "a|b @2 !6", state(x));
        check.same("the marks stay", "1 -1 -1 -1 -1", Check.marks(x));
        check.same("held, out, files stay", 0, x.held() + x.outs() + x.fileRows(0));
        check.same("no deed", 3, x.deeds());
        Check.run(x, "$aq");
        check.same("no id was given", 2, x.id(3));
    }

    private void limits() {
        check.topic("too many line by line");
        Subject x = new Subject();
        x.sample(1, 20);
        check.same("20 more", 20, Check.stream(x, "a"));
        check.same("40 lines", 40, x.lines());
        check.same("one more is refused", -1, Check.stream(x, "40a"));
        check.same("by 4", 4, x.reason());
        check.same("i", -1, Check.stream(x, "1i"));
        check.same("by 4", 4, x.reason());
        check.same("c in its place", 40, Check.stream(x, "1cx"));
        check.same("one goes, one comes", 40 + 39, Check.stream(x, "1d;40ax"));
        check.same("one comes, one goes", 40 + 40, Check.stream(x, "1iz;40d"));
        check.same("one comes, one comes, one goes", -1, Check.stream(x, "1iz;40ix;40d"));
        check.same("by 4", 4, x.reason());
        check.same("400 orders", 400, Check.stream(x, ">0;>0;>0;>0;>0;>0;>0;>0;>0;>0"));
        check.same("none refused", 0, x.reason());
        check.same("401 orders", -1, Check.stream(x, ">0;>0;>0;>0;>0;>0;>0;>0;>0;>0;40>0"));
        check.same("by 7", 7, x.reason());
        check.same("l is the 401st", -1, Check.stream(x, ">0;>0;>0;>0;>0;>0;>0;>0;>0;1,39b;l"));
        check.same("7 comes ahead of 8", 7, x.reason());
        check.same("l is the 361st", -1, Check.stream(x, ">0;>0;>0;>0;>0;>0;>0;>0;1,39b;l"));
        check.same("by 8", 8, x.reason());
        check.same("l is the 400th", -1, Check.stream(x, ">0;>0;>0;>0;>0;>0;>0;40bA;:A;1,39b;l"));
        check.same("by 8", 8, x.reason());
        check.same("q with one more", -1, Check.stream(x, "1a;1q"));
        check.same("by 4", 4, x.reason());
        check.same("q", 1, Check.stream(x, "1q"));
        check.same("orders without an end", -1, Check.stream(x, ":A;bA"));
        check.same("by 7", 7, x.reason());
        check.same("out", -1, Check.stream(x, "p;p;p"));
        check.same("by 4", 4, x.reason());
        check.same("the out is as it was", 0, x.outs());
        check.same("held", 40, Check.stream(x, "H"));
        check.same("41 held", -1, Check.stream(x, "1H"));
        check.same("by 4", 4, x.reason());
        check.same("a file", -1, Check.stream(x, "w0;40w0"));
        check.same("by 4", 4, x.reason());
        Subject y = Check.with("0123456789012345678901234567", "x");
        check.same("n with 30 characters", 2, Check.stream(y, "n"));
        check.same("> with 31", -1, Check.stream(y, ">3"));
        check.same("by 4", 4, y.reason());
        check.same("s with 31", -1, Check.stream(y, "s/0/abcd/"));
        Check.stream(y, "1>1");
        check.same("n with 31", -1, Check.stream(y, "n"));
        check.same("by 4", 4, y.reason());
        Subject z = Check.with("a");
        z.sample(3, 20);
        Check.run(z, "2,$h;1p");
        check.same("60 rows due, but nothing else", -1, Check.stream(z, "1u;1u;1u"));
        check.same("by 4", 4, z.reason());
        check.same("refused by another one first", -1, Check.stream(z, "1u;1u;1u;1bX"));
        check.same("by 6", 6, z.reason());
        Check.run(z, "2,$d");
        check.same("20 held, a line", 21, z.held() + z.lines());
        check.same("41 due, and the work goes", -1, Check.stream(z, "u;u;ax;d"));
        check.same("by 4", 4, z.reason());
        check.same("40 due, and the work is put", -1, Check.stream(z, "u;u"));
        check.same("by 4", 4, z.reason());
        check.same("40 due, and the work goes", 3, Check.stream(z, "u;u;d"));
        check.same("40 lines", 40, z.lines());
    }

    private void deeds() {
        check.topic("deeds line by line");
        Subject x = Check.with("a", "b");
        Check.stream(x, "s/*/x/;ay");
        check.same("one deed", 3, x.deeds());
        check.same("undo", 2, x.undo());
        check.same("the text", "a|b @2", state(x));
        check.same("the ids", "0 1", Check.ids(x));
        Check.stream(x, "ay");
        check.same("ids are not given again", "0 4 1 5", Check.ids(x));
        check.same("it is a deed of its own call", 1, x.undoRun());
    }
}
