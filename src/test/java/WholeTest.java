/** Part 4: what orders do over the whole, why they are refused, how they are counted. */
public final class WholeTest {
    private final Check check = new Check();

    public static void main(String[] args) {
        WholeTest test = new WholeTest();
        test.addresses();
        test.ranges();
        test.emptyTexts();
        test.newLines();
        test.goingLines();
        test.joiningAndParting();
        test.printing();
        test.holding();
        test.shiftingAndTurning();
        test.sorting();
        test.movingAndCopying();
        test.replacing();
        test.filing();
        test.groups();
        test.jumps();
        test.counting();
        test.orderOfReasons();
        test.limits();
        test.always();
        System.exit(test.check.close());
    }

    /** Does orders with a text of these lines (parted by bars) and this present line; tells text, present, reason. */
    private String done(String lines, int present, String orders) {
        Subject x = Check.with(lines.split("\\|", -1));
        Check.run(x, present + "p");
        x.clearOut();
        Check.run(x, orders);
        return state(x);
    }

    private static String state(Subject x) {
        return Check.text(x) + " @" + x.present() + (x.reason() == 0 ? "" : " !" + x.reason());
    }

    private void does(String lines, int present, String orders, String due) {
        check.same(orders + " with " + lines + " at " + present, due, done(lines, present, orders));
    }

    private void addresses() {
        check.topic("addresses");
        does("a|b|c", 1, "2p", "a|b|c @2");
        does("a|b|c", 1, "$p", "a|b|c @3");
        does("a|b|c", 2, ".p", "a|b|c @2");
        does("a|b|c", 2, "p", "a|b|c @2");
        does("a|b|c", 2, ".+1p", "a|b|c @3");
        does("a|b|c", 2, "$-2p", "a|b|c @1");
        does("a|b|c", 2, "9-7p", "a|b|c @2");
        does("a|b|c", 2, ".-5+4p", "a|b|c @1");
        does("a|b|c", 2, ".+2p", "a|b|c @2 !1");
        does("a|b|c", 2, ".-3p", "a|b|c @2 !1");
        does("a|b|c", 2, ".-2p", "a|b|c @2 !1");
        does("a|b|c", 2, "4p", "a|b|c @2 !1");
        does("a|b|c", 2, "0p", "a|b|c @2 !1");
        does("a|b|a", 2, "/a/p", "a|b|a @3");
        does("a|b|a", 2, "?a?p", "a|b|a @1");
        does("a|b|a", 3, "/a/p", "a|b|a @1");
        does("a|b|a", 1, "?a?p", "a|b|a @3");
        does("a|b|c", 2, "/b/p", "a|b|c @2");
        does("a|b|b", 2, "/b/p", "a|b|b @3");
        does("b|b|c", 2, "?b?p", "b|b|c @1");
        does("a|b|c", 1, "/c/-1p", "a|b|c @2");
        does("a|b|c", 1, "/x/p", "a|b|c @1 !2");
        does("a|b|c", 1, "?x?p", "a|b|c @1 !2");
        does("a|b|c", 1, "2kb;'bp", "a|b|c @2");
        does("a|b|c", 1, "'cp", "a|b|c @1 !3");
        does("a|b|c", 1, "2kb;2d;'bp", "a|c @2 !3");
        does("a|b|c", 1, "2kb;2m0;'bd", "a|c @1");
    }

    private void ranges() {
        check.topic("ranges");
        does("a|b|c|d", 1, "2,3d", "a|d @2");
        does("a|b|c|d", 1, "2,2d", "a|c|d @2");
        does("a|b|c|d", 1, "3,2d", "a|b|c|d @1 !1");
        does("a|b|c|d", 1, "%d", " @0");
        does("a|b|c|d", 3, ".,$d", "a|b @2");
        does("a|b|c|d", 2, "/d/,/d/p", "a|b|c|d @4");
        does("a|b|a|c", 2, "/a/,/c/p", "a|b|a|c @4");
        does("a|b|a|c", 3, "/a/,/c/d", " @0");
        does("a|b|c", 2, "0,1d", "a|b|c @2 !1");
        does("a|b|c", 2, "0,1ax", "a|b|c @2 !1");
        does("a|b|c", 2, "0,0ax", "a|b|c @2 !1");
        does("a|b|c", 2, "0ax", "x|a|b|c @1");
        does("a|b|c", 2, "0ix", "a|b|c @2 !1");
        does("a|b|c", 2, "0cx", "a|b|c @2 !1");
        does("a|b|c", 2, "1h;0u", "a|a|b|c @1");
        does("a|b|c", 2, "3w1;0r1", "c|a|b|c @1");
        does("a|b|c", 2, "1h;0e", "a|b|c @1 !1");
        does("a|b|c", 2, "0w1", "a|b|c @2 !1");
        does("a|b|c", 2, "0g/a/d", "a|b|c @2 !1");
        does("a|b|c", 2, "2,1ax", "a|b|c @2 !1");
        does("a|b|c", 2, "%ax", "a|b|c|x @4");
    }

    private void emptyTexts() {
        check.topic("texts without lines");
        for (String orders : new String[] {"d", "p", "=", "ix", "cx", "j", "h", "ka", "v1", ">1", "o0", "m0", "t0", "l",
            "N", "%ax", "%p", "%u", "%r0", "1g/a/d", "1,1w0", "0w0", "$d", "{p}", "%{p}", "%q", "0q", ".b", "%N", "s/a//"}) {
            Subject x = new Subject();
            Check.run(x, orders);
            check.same(orders, " @0 !1", state(x));
            check.same("deeds of " + orders, 0, x.deeds());
        }
        for (String orders : new String[] {"g/a/d", "%g/a/d", "G/a/d", "%G/a/d", "w0", "%w3", "q", "b", "T", ":A", "r0", "0r0", "$r0"}) {
            Subject x = new Subject();
            Check.run(x, orders);
            check.same(orders, " @0", state(x));
        }
        for (String orders : new String[] {"ax", "0ax", ".ax", "$ax", "1-1ax"}) {
            Subject x = new Subject();
            Check.run(x, orders);
            check.same(orders, "x @1", state(x));
        }
        Subject x = new Subject();
        Check.run(x, "ab;w2;h;%d;w2;u");
        check.same("u", "b @1", state(x));
        check.same("a file of no rows", 0, x.fileRows(2));
        Check.run(x, "%d;/a/p");
        check.same("a pattern", " @0 !2", state(x));
    }

    private void newLines() {
        check.topic("a i c");
        does("a|b", 1, "ax|y", "a|x|y|b @3");
        does("a|b", 1, "a", "a||b @2");
        does("a|b", 1, "a|", "a|||b @3");
        does("a|b", 1, "ix|y", "x|y|a|b @2");
        does("a|b|c", 1, "2,3ix", "a|x|b|c @2");
        does("a|b|c", 1, "1,2ax", "a|b|x|c @3");
        does("a|b|c", 1, "1,2cx|y|z", "x|y|z|c @3");
        does("a|b|c", 1, "2,3c", "a| @2");
        does("a|b|c", 3, "%cx", "x @1");
        Subject x = Check.with("a", "b", "c");
        Check.run(x, "1ka;2kb;3kc;2cx|y");
        check.same("ids of c", "0 3 4 2", Check.ids(x));
        check.same("marks of c", "1 -1 4 -1 -1", Check.marks(x));
        Check.run(x, "1iz;0aq");
        check.same("ids of i and a", "6 5 0 3 4 2", Check.ids(x));
        Check.run(x, "a0|1;99d");
        check.same("ids of a", "6 7 8 5 0 3 4 2", Check.ids(x));
        x.undo();
        Check.run(x, "$ag");
        check.same("ids are not given again", "6 5 0 3 4 2 9", Check.ids(x));
    }

    private void goingLines() {
        check.topic("d l");
        does("a|b|c", 1, "d", "b|c @1");
        does("a|b|c", 3, "d", "a|b @2");
        does("a|b|c", 1, "2,3d", "a @1");
        does("a", 1, "d", " @0");
        does("a|a|b|a|a|a", 1, "%l", "a|b|a @3");
        does("a|a|b|a|a|a", 1, "1,4l", "a|b|a|a|a @3");
        does("a|a|b|a|a|a", 1, "2,3l", "a|a|b|a|a|a @3");
        does("a|a|a|b", 1, "2l", "a|a|a|b @2");
        does("a|a |a", 1, "%l", "a|a |a @3");
        does("||a", 1, "%l", "|a @2");
        Subject x = Check.with("a", "a", "a", "b");
        Check.run(x, "2ka;%l");
        check.same("the first one stays", "0 3", Check.ids(x));
        check.same("a mark goes", -1, x.mark(0));
    }

    private void joiningAndParting() {
        check.topic("j v");
        does("a|b|c", 1, "j", "ab|c @1");
        does("a|b|c", 2, "j", "a|bc @2");
        does("a|b|c", 3, "j", "a|b|c @3 !1");
        does("a|b|c", 3, "1,3j", "abc @1");
        does("a|b|c", 3, "3,3j", "a|b|c @3 !1");
        does("a|b|c", 3, "2,2j", "a|bc @2");
        does("a", 1, "%j", "a @1 !1");
        does("abcde|f|gh", 1, "%v2", "ab|cde|f|gh @4");
        does("abcde|f|gh", 1, "%v0", "|abcde||f||gh @6");
        does("abcde|f|gh", 3, "1,2v1", "a|bcde|f|gh @3");
        does("abcde|f|gh", 3, "1v4", "abcd|e|f|gh @2");
        does("abcde|f|gh", 3, "1v5", "abcde|f|gh @1");
        does("abcde|f|gh", 3, "%v99", "abcde|f|gh @3");
        does("||a", 3, "%v0", "|||a @4");
        Subject x = Check.with("abc", "d", "efg");
        Check.run(x, "2ka;%v1");
        check.same("ids of v", "0 3 1 2 4", Check.ids(x));
        Check.run(x, "2,4j");
        check.same("ids of j", "0 3 4", Check.ids(x));
        check.same("a mark goes with j", -1, x.mark(0));
        check.same("the text", "a|bcde|fg", Check.text(x));
    }

    private void printing() {
        check.topic("p n =");
        Subject x = Check.with("a", "", "c d");
        Check.run(x, "2,3p;1n;%n;2=;%=");
        check.same("the out", "|c d|1 a|1 a|2 |3 c d|2|3", Check.out(x));
        check.same("present behind =", 3, x.present());
        Check.run(x, "1=;1,2n");
        check.same("present behind n", 2, x.present());
        x.clearOut();
        for (int line = 4; line <= 12; line++) {
            Check.run(x, "$ax");
        }
        Check.run(x, "9,10n;12=");
        check.same("two digits", "9 x|10 x|12", Check.out(x));
        check.same("the text stays", "x", Check.text(x).substring(Check.text(x).length() - 1));
        Subject y = Check.with("0123456789012345678901234567", "01234567890123456789012345678");
        Check.run(y, "1n;2n");
        check.same("30 characters, not 31", 4, y.reason());
        check.same("the first one is there", "1 0123456789012345678901234567", Check.out(y));
        Check.run(y, "%n");
        check.same("nothing of it is done", 1, y.outs());
    }

    private void holding() {
        check.topic("h H u e");
        Subject x = Check.with("a", "b", "c");
        Check.run(x, "1,2h");
        check.same("held", "a|b", Check.held(x));
        check.same("present", 2, x.present());
        Check.run(x, "3H;2H");
        check.same("held then", "a|b|c|b", Check.held(x));
        Check.run(x, "3h;1u");
        check.same("u", "a|c|b|c @2", state(x));
        check.same("ids", "0 3 1 2", Check.ids(x));
        Check.run(x, "1,2h;3,4e");
        check.same("e", "a|c|a|c @4", state(x));
        check.same("ids of e", "0 3 4 5", Check.ids(x));
        check.same("held by e", "b|c", Check.held(x));
        Check.run(x, "2ka;2e");
        check.same("e of one line", "a|b|c|a|c @3", state(x));
        check.same("held by it", "c", Check.held(x));
        check.same("its mark", -1, x.mark(0));
        Check.run(x, "%e");
        check.same("e of all", "c @1", state(x));
        check.same("held by that", "a|b|c|a|c", Check.held(x));
        Subject y = Check.with("a");
        Check.run(y, "u");
        check.same("u of nothing", 5, y.reason());
        Check.run(y, "e");
        check.same("e of nothing", 5, y.reason());
        Check.run(y, "9u");
        check.same("the where comes first", 1, y.reason());
    }

    private void shiftingAndTurning() {
        check.topic("> < z");
        does("a| b|", 1, "%>2", "  a|   b|   @3");
        does("a|b", 1, ">0", "a|b @1");
        does("   a| b|c", 1, "%<2", " a|b|c @3");
        does("   a| b|c", 1, "1,2<0", "   a| b|c @2");
        does("   ", 1, "<99", " @1");
        does("a", 1, ">29", "                             a @1");
        does("a", 1, ">30", "a @1 !4");
        does("abc|cab", 1, "%z/ab/ba/", "bac|cba @2");
        does("abc", 1, "z/aab/xyz/", "xzc @1");
        does("a b", 1, "z/ a/a /", " ab @1");
        does("abc", 1, "z/abc/bca/", "bca @1");
    }

    private void sorting() {
        check.topic("o O");
        does("c|a|b", 1, "%o0", "a|b|c @3");
        does("c|a|b", 1, "%O0", "c|b|a @3");
        does("c|a|b", 1, "1,2o0", "a|c|b @2");
        does("ca|ab|bc", 1, "%o1", "ca|ab|bc @3");
        does("cb|aa|bb|xa", 1, "%o1", "aa|xa|cb|bb @4");
        does("cb|aa|bb|xa", 1, "%O1", "cb|bb|aa|xa @4");
        does("ab|a||a ", 1, "%o0", "|a|a |ab @4");
        does("ab|a||a ", 1, "%O0", "ab|a |a| @4");
        does("a|9| |z0|z", 1, "%o0", " |9|a|z|z0 @5");
        does("c|b|a", 1, "%o1", "c|b|a @3");
        does("c|b|a", 1, "%O99", "c|b|a @3");
        does("c|b|a", 3, "2o0", "c|b|a @2");
        Subject full = new Subject();
        full.sample(1, 20);
        full.sample(2, 18);
        Check.run(full, "0a;$az;%O0");
        for (int line = 2; line <= 40; line++) {
            check.holds("falling at " + line, rowOf(full, line - 1).compareTo(rowOf(full, line)) >= 0);
        }
        Check.run(full, "%o0");
        for (int line = 2; line <= 40; line++) {
            check.holds("in order at " + line, rowOf(full, line - 1).compareTo(rowOf(full, line)) <= 0);
        }
        Subject x = Check.with("b", "a", "b", "a");
        Check.run(x, "1ka;4kb;%o0");
        check.same("alike ones stay in their order", "1 3 0 2", Check.ids(x));
        check.same("marks go with them", "3 2 -1 -1 -1", Check.marks(x));
        Check.run(x, "%O0");
        check.same("also the other way round", "0 2 1 3", Check.ids(x));
    }

    private static String rowOf(Subject x, int line) {
        return Check.text(x).split("\\|", -1)[line - 1];
    }

    private void movingAndCopying() {
        check.topic("m t");
        does("a|b|c|d", 1, "1m2", "b|a|c|d @2");
        does("a|b|c|d", 1, "1m$", "b|c|d|a @4");
        does("a|b|c|d", 1, "3m0", "c|a|b|d @1");
        does("a|b|c|d", 1, "2,3m0", "b|c|a|d @2");
        does("a|b|c|d", 1, "2,3m4", "a|d|b|c @4");
        does("a|b|c|d", 1, "2,3m1", "a|b|c|d @3");
        does("a|b|c|d", 1, "2,3m3", "a|b|c|d @3");
        does("a|b|c|d", 1, "2,3m2", "a|b|c|d @1 !1");
        does("a|b|c|d", 1, "2m2", "a|b|c|d @2");
        does("a|b|c|d", 1, "2m1", "a|b|c|d @2");
        does("a|b|c|d", 3, "1m.", "b|c|a|d @3");
        does("a|b|c|d", 3, "1m.-1", "b|a|c|d @2");
        does("a|b|c|d", 1, "2,3m5", "a|b|c|d @1 !1");
        does("a|b|c|d", 1, "2m/x/", "a|b|c|d @1 !2");
        does("a|b|c|d", 1, "2m'a", "a|b|c|d @1 !3");
        does("a|b|c|d", 1, "3m/b/", "a|b|c|d @3");
        does("a|b", 1, "%m0", "a|b @2");
        does("a|b", 1, "%m1", "a|b @1 !1");
        does("a|b|c", 1, "2t0", "b|a|b|c @1");
        does("a|b|c", 1, "1,2t1", "a|a|b|b|c @3");
        does("a|b|c", 1, "%t$", "a|b|c|a|b|c @6");
        does("a|b|c", 1, "1,3t2", "a|b|a|b|c|c @5");
        does("a|b|c", 1, "1t4", "a|b|c @1 !1");
        does("a|b|c", 1, "1t.", "a|a|b|c @2");
        Subject x = Check.with("a", "b", "c");
        Check.run(x, "1ka;3kb;1,2m$");
        check.same("they are the same lines", "2 0 1", Check.ids(x));
        check.same("marks go with them", "2 1 -1 -1 -1", Check.marks(x));
        Check.run(x, "1,2t0");
        check.same("copies are new lines", "3 4 2 0 1", Check.ids(x));
        check.same("marks stay", "4 3 -1 -1 -1", Check.marks(x));
    }

    private void replacing() {
        check.topic("s");
        does("aaa", 1, "s/a/b/", "baa @1");
        does("aaa", 1, "s/a/b/2", "aba @1");
        does("aaa", 1, "s/a/b/3", "aab @1");
        does("aaa", 1, "s/a/b/4", "aaa @1");
        does("aaa", 1, "s/a/b/g", "bbb @1");
        does("aaa", 1, "s/a//g", " @1");
        does("ab", 1, "s/b/x&y/", "axby @1");
        does("ab", 1, "s/(a)(b)/\\2\\1&/", "baab @1");
        does("abc", 1, "s/^/x/", "xabc @1");
        does("abc", 1, "s/$/x/", "abcx @1");
        does("abc", 1, "s/*/x/g", "x @1");
        does("abc", 1, "s/()/x/g", "xaxbxcx @1");
        does("abc", 1, "s/()/x/2", "axbc @1");
        does("baac", 1, "s/(a*)/x/g", "bx @1");
        does("aabab", 1, "s/^a/x/g", "xabab @1");
        does("aaaaaaaaaaaaaaaaaaaaaaaaaaaaaa", 1, "s/a/b/g", "bbbbbbbbbbbbbbbbbbbbbbbbbbbbbb @1");
        does("aaaaaaaaaaaaaaaaaaaaaaaaaaaaa", 1, "s/$/b/g", "aaaaaaaaaaaaaaaaaaaaaaaaaaaaab @1");
        does("a|b|ca", 1, "%s/a/x/", "x|b|cx @3");
        does("a|b|ca", 3, "1,2s/a/x/", "x|b|ca @2");
        does("a|b|ca", 3, "1s/q/x/", "a|b|ca @1");
        does("abab", 1, "s/(.)b/\\1\\1/g", "aaaa @1");
        does("abcd", 1, "s/b*c/x&x/", "axbcxd @1");
        does("012345678901234567890123456789", 1, "s/0/x/g", "x123456789x123456789x123456789 @1");
        does("012345678901234567890123456789", 1, "s/0/xx/", "012345678901234567890123456789 @1 !4");
        does("a|012345678901234567890123456789", 1, "%s/[a0]/xx/", "a|012345678901234567890123456789 @1 !4");
        does("012345678901234567890123456789", 1, "s/0*9/012345678901234567890123456789x/",
            "012345678901234567890123456789 @1 !4");
    }

    private void filing() {
        check.topic("r w");
        Subject x = Check.with("a", "b", "c");
        Check.run(x, "1p;w0;2w1");
        check.same("w without a where takes all", "a|b|c", Check.file(x, 0));
        check.same("w of a line", "b", Check.file(x, 1));
        check.same("the present line stays", 1, x.present());
        Check.run(x, "2,3w1");
        check.same("no others", "b|c", Check.file(x, 1));
        Check.run(x, "1r1");
        check.same("r", "a|b|c|b|c @3", state(x));
        check.same("ids of r", "0 3 4 1 2", Check.ids(x));
        Check.run(x, "1r3");
        check.same("without rows nothing is done", "a|b|c|b|c @3", state(x));
        check.same("it is a deed", 3 + 3 + 1 + 1 + 1, x.deeds());
        Check.run(x, "9r3");
        check.same("but its where is found", 1, x.reason());
    }

    private void groups() {
        check.topic("g G { }");
        does("a|b|a", 2, "g/a/s/a/x/", "x|b|x @3");
        does("a|b|a", 2, "G/a/s/b/x/", "a|x|a @2");
        does("a|b|a", 2, "g/q/d", "a|b|a @2");
        does("a|b|a", 2, "1,2g/a/d", "b|a @1");
        does("a|b|a|b", 1, "g/a/j", "ab|ab @2");
        does("a|a|a|b", 1, "g/a/j", "aa|ab @2");
        does("a|b|c", 1, "g/./m0", "c|b|a @1");
        does("a|b|c", 1, "g/*/t.", "a|a|b|b|c|c @6");
        does("a|b|c", 1, "g/a/aa", "a|a|b|c @2");
        does("a|b|c", 3, "g/[ac]/{s/*/&x/;ay}", "ax|y|b|cx|y @5");
        does("a|b|c", 3, "%{s/*/&x/;d}", " @0");
        does("a|b|c", 3, "1,2{ix;.+1p}", "x|a|x|b|c @4");
        does("a|b|c", 3, "{p;1p}", "a|b|c @1");
        does("a|b|c", 2, "%{d;$ax}", "x|x|x @3");
        does("a|b|c", 2, "g/b/{d;9p}", "a|b|c @2 !1");
        does("a|b|c", 2, "g/./.+1p", "a|b|c @2 !1");
        does("a|b|c", 1, "2,3{s/*/x&/;1m.}", "a|xc|xb @3");
        Subject x = Check.with("a", "b");
        Check.run(x, "g/./{h;p;w0;2s/b/c/;ka;/q/d}");
        check.same("the whole is refused", "a|b @2 !2", state(x));
        check.same("nothing is held", 0, x.held());
        check.same("the out", 0, x.outs());
        check.same("the file", 0, x.fileRows(0));
        check.same("the mark", -1, x.mark(0));
        check.same("no deed", 2, x.deeds());
        Check.run(x, "g/./ax;9p;p");
        check.same("ids that a refused order gave are given again", "0 2 1 3", Check.ids(x));
        Subject y = Check.with("a", "b");
        Check.run(y, "%{ax;99p}");
        Check.run(y, "$ay");
        check.same("a refused order has given none", "0 1 2", Check.ids(y));
        Check.run(y, "2{w1}");
        check.same("w in a block takes all lines", 3, y.fileRows(1));
    }

    private void jumps() {
        check.topic(": b T q N");
        does("a|b|c", 1, "p;q;d", "a|b|c @1");
        does("a|b|c", 1, "2q;d", "b|c @1");
        does("a|b|c", 1, "1q;d", "a|b|c @1");
        does("a|b|c", 1, "%q;d", "a|b|c @1");
        does("a|b|c", 1, "4q;d", "a|b|c @1 !1");
        does("a|b|c", 1, "0q;d", "a|b|c @1 !1");
        does("a|b|c", 1, "N;d", "a|c @2");
        does("a|b|c", 3, "N;d", "a|b|c @3 !1");
        does("a|b|c", 3, "1N;d", "a|b @2");
        does("a|b|c", 1, "1,2N;d", "a|c @2");
        does("a|b|c", 1, "bA;d;:A;2d", "a|c @2");
        does("a|b|c", 1, "b;d", "a|b|c @1");
        does("a|b|c", 1, "bB;d;:A", "a|b|c @1 !6");
        does("a|b|c", 1, "2bB;2d", "a|c @2");
        does("a|b|c", 1, "1,3bB;2d", "a|b|c @1 !6");
        does("a|b|c", 1, ":A;d;:A;bB;:B", "b|c @1");
        does("aaa", 1, ":A;s/a/b/;TA", "bbb @1");
        does("aaa", 1, "s/a/a/;T;d", "aaa @1");
        does("aaa", 1, "s/x/a/;T;d", " @0");
        does("aaa", 1, "s/x/a/;TA", "aaa @1");
        does("aaa", 1, "s/a/x/;TA", "xaa @1 !6");
        does("aaa", 1, "s/a/x/;TA;d;:A;T;s/a/y/", "xya @1");
        does("aaa|b", 1, "s/a/x/;2T;2d;TA;:B;p;:A", "xaa @1");
        does("a|a", 1, "g/a/s/a/b/;TA;d;:A", "b|b @2");
        does("a|a", 1, "1{s/a/b/};TA;d;:A", "b|a @1");
        does("a|b|c", 1, ":A;N;bA", "a|b|c @3 !1");
        does("a|b|c", 1, ":A;$q;N;bA", "a|b|c @3");
        Subject x = Check.with("a");
        Check.run(x, "s/a/b/");
        Check.run(x, "T;s/b/c/");
        check.same("T asks since these orders began", "c", Check.text(x));
    }

    private void counting() {
        check.topic("how orders are counted");
        Subject full = new Subject();
        full.sample(1, 20);
        full.sample(2, 9);
        check.same("2 and 29 times 2 are 60", 2, Check.run(full, "p;%{=;>0}"));
        check.same("none refused", 0, full.reason());
        check.same("3 and 29 times 2 are 61", 2, Check.run(full, "p;p;%{=;>0}"));
        check.same("the last one is refused", 7, full.reason());
        Subject x = Check.with("a", "b", "c");
        check.same("60 orders", 60, Check.run(x, ":A;=;bA"));
        check.same("a 61st one", 7, x.reason());
        check.same("30 of them", 30, x.outs());
        Subject y = new Subject();
        y.sample(1, 20);
        check.same("g and 19 times 3 and 2 more", 3, Check.run(y, "1,19g/*/{p;=;n};=;=;=;="));
        check.same("61 are too many", 7, y.reason());
        Subject z = new Subject();
        z.sample(1, 20);
        check.same("1 and 20 times 3 are refused", 0, Check.run(z, "%{p;=;n}"));
        check.same("by 7", 7, z.reason());
        check.same("the whole of it", 0, z.outs());
        check.same("1 and 19 times 3 and 2 more", 3, Check.run(z, "1,19{p;=;n};p;p;9q"));
        check.same("the next is refused", 7, z.reason());
        check.same("what was done ahead stays", 19 * 3 + 2, z.outs());
        check.same("a block behind g is none itself", 3, Check.run(z, "1,19g/*/{>0;<0;ka};>0;>0;>0"));
        check.same("the 61st", 7, z.reason());
    }

    private void orderOfReasons() {
        check.topic("which reason comes first");
        does("a|b", 1, "/x/,'ap", "a|b @1 !2");
        does("a|b", 1, "'a,/x/p", "a|b @1 !3");
        does("a|b", 1, "9,/x/p", "a|b @1 !1");
        does("a|b", 1, "1,/x/p", "a|b @1 !2");
        does("a|b", 1, "2,1m'a", "a|b @1 !1");
        does("a|b", 1, "0m'a", "a|b @1 !1");
        does("a|b", 1, "1m'a", "a|b @1 !3");
        does("a|b", 1, "%m/x/", "a|b @1 !2");
        does("a|b", 1, "9e", "a|b @1 !1");
        does("a|b", 1, "9bX", "a|b @1 !1");
        does("a|b", 1, "9>99", "a|b @1 !1");
        Subject x = Check.with("a");
        Check.run(x, ":A;=;bA");
        Check.run(x, ":A;:B;bA;9p");
        check.same("7 comes ahead of all", 7, x.reason());
        Subject y = new Subject();
        y.sample(3, 20);
        Check.run(y, "1,20{=;=;99p}");
        check.same("the first that is refused tells", 1, y.reason());
        Check.run(y, "1,20{=;=};" + "=;".repeat(19) + "99p");
        check.same("the 61st", 7, y.reason());
        y.clearOut();
        Check.run(y, "1,20{=;=};" + "=;".repeat(18) + "99p");
        check.same("the 60th", 1, y.reason());
    }

    private void limits() {
        check.topic("too long or too many");
        Subject x = new Subject();
        x.sample(1, 20);
        x.sample(2, 19);
        Check.run(x, "ax");
        check.same("40 lines", 40, x.lines());
        for (String orders : new String[] {"ax", "1ix", "1cx|y", "1t0", "1h;u", "1w0;r0", "1,2h;3e", "40s/*/abc/;40v1", "g/x/ay"}) {
            Subject y = new Subject();
            y.sample(1, 20);
            y.sample(2, 19);
            Check.run(y, "ax");
            Check.run(y, orders);
            check.same(orders + " with 40 lines", 4, y.reason());
            check.same("lines behind " + orders, 40, y.lines());
        }
        Check.run(x, "1cx;1,2cx|y;%h;%e;1m$");
        check.same("as many as before", 0, x.reason());
        Check.run(x, "1H");
        check.same("41 held", 4, x.reason());
        check.same("40 are", 40, x.held());
        Check.run(x, "%e;%w0;%p;%p");
        check.same("no more than they may", 0, x.reason());
        Check.run(x, "1,21p");
        check.same("101 rows in the out", 4, x.reason());
        check.same("80 are", 80, x.outs());
        Check.run(x, "1,20p");
        check.same("100 are", 100, x.outs());
        Check.run(x, "=");
        check.same("one more", 4, x.reason());
        Subject y = Check.with("012345678901234", "012345678901234", "x");
        Check.run(y, "1,2j");
        check.same("30 characters", 30, y.length(1));
        Check.run(y, "1j");
        check.same("31 characters", 4, y.reason());
    }

    private void always() {
        check.topic("what always holds");
        for (String act : new String[] {"s/a/bb/", "z/ab/ba/", ">1", "<1", "v2", "n", "p", "{s/a/x/;p}"}) {
            Subject x = new Subject();
            x.sample(77, 9);
            Subject y = new Subject();
            y.sample(77, 9);
            Check.run(x, "%" + act);
            for (int id = 0; id < 9; id++) {
                Check.run(y, y.lineOf(id) + act);
            }
            if (!act.equals("n")) {
                check.same("line by line: " + act, Check.text(x) + Check.out(x), Check.text(y) + Check.out(y));
            }
        }
        for (String orders : new String[] {"%s/a/b/;%z/bc/cb/;%>2;%<1", "%s/(*)a/\\1x/g;%s/b/&&/2", "%<3;%z/a / a/"}) {
            Subject x = new Subject();
            x.sample(123, 15);
            Subject y = new Subject();
            y.sample(123, 15);
            Check.run(x, orders);
            Check.stream(y, orders);
            check.same("over the whole as line by line: " + orders, Check.text(x), Check.text(y));
        }
    }
}
