/** Boundaries that part 5 names: scripts that are played line by line. */
public final class EdgeByLineTest {
    private final Edge edge = new Edge();
    private final Check check = edge.check;

    public static void main(String[] args) {
        EdgeByLineTest test = new EdgeByLineTest();
        test.presentLine();
        test.allOrNothing();
        test.comingTo();
        test.fourHundredOrders();
        test.idsAndMarks();
        test.oneAddress();
        test.spotsOfOneAddress();
        test.runsToNumbers();
        test.runsToOthers();
        test.lookedAtOnce();
        test.notComeTo();
        test.nothingElse();
        test.asForARange();
        test.dueRows();
        test.putAtOnce();
        test.replacedLines();
        test.parting();
        test.joining();
        test.exchanging();
        test.files();
        test.groups();
        test.ending();
        test.stepping();
        test.jumping();
        test.notByLine();
        test.goneWork();
        test.fortyLines();
        test.otherLimits();
        test.nothingHeld();
        test.sameAsOverTheWhole();
        System.exit(test.check.close());
    }

    private void plays(String lines, String orders, String due) {
        edge.allowedByLine(Edge.text(lines, 1), orders, due);
    }

    private void refuses(String lines, String orders, int why) {
        edge.refusedByLine(Edge.text(lines, 1), orders, why);
    }

    private void come(int due, String lines, String orders) {
        check.same("orders come to by " + orders + " with " + lines, due, Check.stream(Edge.text(lines, 1), orders));
    }

    private void presentLine() {
        edge.sentence("5: in the end the last line of the new text is the present one (0 without lines)");
        plays("a|b|c", "p", "a|b|c @3");
        plays("a|b|c", "$d", "a|b @2");
        plays("a|b|c", "d", " @0");
        plays("a|b|c", "$ax|y", "a|b|c|x|y @5");
        plays("a|b|c", "q", "a|b|c @3");
        Subject x = new Subject();
        check.same("a text without lines", 0, Check.stream(x, "ax;u;bX;l"));
        check.same("none was refused", 0, x.reason());
        check.same("present", 0, x.present());
        check.same("a deed", 1, x.deeds());
    }

    private void allOrNothing() {
        edge.sentence("5: if anything is refused, nothing of all this is done, and the reason is told");
        for (String last : new String[] {"l", "bX", "u", ">99"}) {
            Subject x = Edge.text("a|b|c", 2);
            Check.run(x, "1ka;2w1;p");
            int why = last.equals("l") ? 8 : last.equals("bX") ? 6 : last.equals("u") ? 5 : 4;
            boolean atOnce = last.equals("l");
            edge.refusedByLine(x, "s/a/x/;p;kb;w1;w2;ay;iz;1d;j;" + (atOnce ? "" : "/c/") + last, why);
            edge.nextId(x, 3);
        }
        Subject x = Edge.text("a|b|c", 2);
        Check.run(x, "1,2h");
        edge.refusedByLine(x, "h;H;H;2e", 5);
        check.same("held is what it was", "a|b", Check.held(x));
        edge.refusedByLine(x, "n;=;$bX", 6);
    }

    private void comingTo() {
        edge.sentence("promise 9: how many orders were come to, those in blocks and behind g and G as well; NONE if one was refused");
        come(3, "a|b|c", "p");
        come(6, "a|b|c", "9p;0p");
        come(3 + 2, "a|b|c", "g/[ac]/p");
        come(3 + 1, "a|b|c", "G/[ac]/p");
        come(3 + 2 * 2, "a|b|c", "g/[ac]/{p;9p}");
        come(3 + 3 * 2, "a|b|c", "{p;=}");
        come(3 + 2, "a|b|c", "2{p;=}");
        come(1 + 1 + 3, "a|b|c", "1,2b;p;9p");
        come(1 + 2 + 2, "a|b|c", "1d;p");
        come(1, "a|b|c", "q;p");
        come(2 + 2, "a|b|c", "j;p");
        come(3 + 1, "a|b|c", "N;p;p");
        come(-1, "a|b|c", "p;3l");
        come(1 + 2 + 2, "a|b|c", "1bB;:B");
    }

    private void fourHundredOrders() {
        edge.sentence("5: a 401st order is refused, by 7, ahead of all else");
        String eight = ">0" + ";>0".repeat(7);
        String nine = eight + ";>0";
        Subject x = Edge.empties(40);
        check.same("40 times 10", 400, Check.stream(x, nine + ";9>0"));
        check.same("400 are allowed", 0, x.reason());
        edge.refusedByLine(x, nine + ";40{=}", 7);
        edge.refusedByLine(x, nine + ";40{9=}", 7);
        edge.refusedByLine(x, nine + ";40{m0}", 7);
        edge.refusedByLine(x, nine + ";40{u}", 7);
        edge.refusedByLine(x, nine + ";40l", 8);
        edge.refusedByLine(x, nine + ";40bX", 6);
        Subject one = Edge.empties(40);
        check.same("the first line has 9, the others 10, the last one 11", 400, Check.stream(one, eight + ";1b;40{9=}"));
        edge.refusedByLine(one, eight + ";1b;40{m0}", 8);
        edge.refusedByLine(one, eight + ";1b;40{u}", 5);
        edge.refusedByLine(one, ":A;bA", 7);
        edge.refusedByLine(Edge.empties(1), ":A;s/$/a/;bA", 4);
        edge.sentence("5: each order that is come to counts as one, also those in blocks and behind g and G");
        Subject y = Edge.empties(40);
        check.same("in a block", 400, Check.stream(y, eight + ";{9=}"));
        edge.refusedByLine(y, nine + ";{9=}", 7);
        edge.refusedByLine(y, nine + ";g/^$/9=", 7);
        check.same("behind g, if the pattern is not held", 400, Check.stream(y, nine + ";g/a/9="));
        check.same("a block behind g is none itself", 400, Check.stream(y, eight + ";g/^$/{9=}"));
        edge.refusedByLine(y, eight + ";G/a/{9=;9=}", 7);
        check.same("with q", 400, Check.stream(y, nine + ";$q"));
    }

    private void idsAndMarks() {
        edge.sentence("5: new lines get ids as they are put into the new text; marks go with their lines");
        Subject x = Edge.text("a|b", 1);
        Check.run(x, "1ka;2kb");
        edge.allowedByLine(x, "ax;iy;az", "y|a|x|z|y|b|x|z @8");
        check.same("ids", "2 0 3 4 5 1 6 7", Check.ids(x));
        check.same("marks", "2 6 -1 -1 -1", Check.marks(x));
        edge.allowedByLine(x, "/[xyz]/d;'bs/$/c/;'ckd", "a|bc @2");
        check.same("marks", "1 2 -1 -1 -1", Check.marks(x));
        edge.allowedByLine(x, "1cq", "q|bc @2");
        check.same("the mark of a work that went", "-1 2 -1 -1 -1", Check.marks(x));
        check.same("ids of c", "8 1", Check.ids(x));
        edge.allowedByLine(x, "kc;1j", "qbc @1");
        check.same("marks of a line that was joined", "-1 -1 1 -1 -1", Check.marks(x));
        check.same("the same line", "8", Check.ids(x));
        edge.allowedByLine(x, "v1;s/*/&a/", "qa|bc @2");
        check.same("the mark stays with the work", 1, x.mark(2));
        check.same("ids of v", "8 9", Check.ids(x));
    }

    private void oneAddress() {
        edge.sentence("5: a number, or $, holds, if the number of the work is that; one that no work has never holds");
        plays("a|b|c", "1s/$/x/", "ax|b|c @3");
        plays("a|b|c", "3s/$/x/", "a|b|cx @3");
        plays("a|b|c", "$s/$/x/", "a|b|cx @3");
        plays("a", "$s/$/x/", "ax @1");
        for (String never : new String[] {"0", "4", "99", "0-1", "$+1", "$-3", "$-9", "3+1", "1-1", "1-9"}) {
            plays("a|b|c", never + "s/$/x/", "a|b|c @3");
            plays("a|b|c", never + "d", "a|b|c @3");
            plays("a|b|c", never + "u", "a|b|c @3");
            plays("a|b|c", never + ",9s/$/x/", "a|b|c @3");
        }
        edge.sentence("5: with + and - if it is what comes of it");
        plays("a|b|c", "$-1s/$/x/", "a|bx|c @3");
        plays("a|b|c", "1+1s/$/x/", "a|bx|c @3");
        plays("a|b|c", "9-7s/$/x/", "a|bx|c @3");
        plays("a|b|c", "1-9+10s/$/x/", "a|bx|c @3");
        plays("a|b|c", "0+3s/$/x/", "a|b|cx @3");
        plays("a|b|c", "$-2+0s/$/x/", "ax|b|c @3");
        plays("a|b|c", "$+0s/$/x/", "a|b|cx @3");
        edge.sentence("5: the number of the work is its number as the text was at the beginning");
        plays("a|b|c", "1ax|y;2s/$/z/;ip;$s/$/q/", "p|a|x|y|p|bz|p|cq @8");
        plays("a|b|c", "1d;2s/$/z/", "bz|c @2");
    }

    private void spotsOfOneAddress() {
        edge.sentence("5: without a where, and with %, it holds; a point holds");
        plays("a|b", "s/$/x/", "ax|bx @2");
        plays("a|b", "%s/$/x/", "ax|bx @2");
        plays("a|b", ".s/$/x/", "ax|bx @2");
        edge.sentence("5: a mark holds, if it stands at the work; a pattern, if the work holds it");
        Subject x = Edge.text("a|b|c", 1);
        edge.allowedByLine(x, "'as/$/x/", "a|b|c @3");
        Check.run(x, "2ka");
        edge.allowedByLine(x, "'as/$/x/", "a|bx|c @3");
        edge.allowedByLine(x, "ke;'es/$/y/", "ay|bxy|cy @3");
        plays("ab|b|c", "/b/s/$/x/", "abx|bx|c @3");
        plays("ab|b|c", "?b?s/$/x/", "abx|bx|c @3");
        plays("ab|b|c", "/^$/s/$/x/", "ab|b|c @3");
        edge.sentence("5: a where with one address is looked at each time, by the work as it is then");
        plays("a|b", "/a/s/a/b/;/b/s/$/c/;/a/s/$/d/", "bc|bc @2");
        plays("a|b|c", "1j;1s/$/x/;2s/$/y/;3s/$/z/", "aby|cz @2");
        plays("aa", ":A;/a/s/a/x/;TA;/a/s/$/y/", "xx @1");
    }

    private void runsToNumbers() {
        edge.sentence("5: to a number or $ it runs up to that work, or is over with the first one, if that is not less");
        String[] wheres = {"2,4", "2,3", "2,2", "2,1", "2,0", "2,99", "2,$", "2,$-1", "2,$-4", "2,$+9", "2,0-9", "2,1+2", "$,1", "$,$", "$,99",
            "1,$", "1,1", "5,5", "0,3", "6,9", "/b/,3", "/[bd]/,3", "/b/,2", "/[bcd]/,1", "1+1,9-6"};
        String[] due = {"a|bx|cx|dx|e", "a|bx|cx|d|e", "a|bx|c|d|e", "a|bx|c|d|e", "a|bx|c|d|e", "a|bx|cx|dx|ex", "a|bx|cx|dx|ex",
            "a|bx|cx|dx|e", "a|bx|c|d|e", "a|bx|cx|dx|ex", "a|bx|c|d|e", "a|bx|cx|d|e", "a|b|c|d|ex", "a|b|c|d|ex", "a|b|c|d|ex",
            "ax|bx|cx|dx|ex", "ax|b|c|d|e", "a|b|c|d|ex", "a|b|c|d|e", "a|b|c|d|e", "a|bx|cx|d|e", "a|bx|cx|dx|e", "a|bx|c|d|e",
            "a|bx|cx|dx|e", "a|bx|cx|d|e"};
        for (int i = 0; i < wheres.length; i++) {
            plays("a|b|c|d|e", wheres[i] + "s/$/x/", due[i] + " @5");
        }
        edge.sentence("5: a run that is over begins again, where the first address holds");
        plays("b|a|b|a|b", "/b/,2s/$/x/", "bx|ax|bx|a|bx @5");
        plays("b|a|b|a|b", "/b/,4s/$/x/", "bx|ax|bx|ax|bx @5");
        plays("b|a|b|a|b", "/b/,1s/$/x/", "bx|a|bx|a|bx @5");
    }

    private void runsToOthers() {
        edge.sentence("5: otherwise it runs up to a later work, this one included, at which the second one holds");
        plays("a|b|c|d", "/b/,/c/s/$/x/", "a|bx|cx|d @4");
        plays("a|bc|c|d", "/b/,/c/s/$/x/", "a|bcx|cx|d @4");
        plays("a|b|c|b|d", "/b/,/c/s/$/x/", "a|bx|cx|bx|dx @5");
        plays("a|b|d", "/b/,/c/s/$/x/", "a|bx|dx @3");
        plays("a|b|c", "$,/a/s/$/x/", "a|b|cx @3");
        plays("b|b|b|b|b", "/b/,/b/s/^/x/", "xb|xb|xb|xb|xb @5");
        plays("b|b|b", "1,/b/s/^/x/", "xb|xb|b @3");
        plays("a|b|c|d", "2,.s/$/x/", "a|bx|cx|d @4");
        plays("a|b|c|d", "/[ab]/,.s/$/x/", "ax|bx|c|d @4");
        plays("a|b|c|d", "/[abc]/,.s/$/x/", "ax|bx|cx|dx @4");
        plays("a|b|c|d", ".,/c/s/$/x/", "ax|bx|cx|dx @4");
        plays("a|b|c|d", ".,2s/$/x/", "ax|bx|cx|dx @4");
        plays("a|b|c|d", "1,?c?s/$/x/", "ax|bx|cx|d @4");
        Subject x = Edge.text("a|b|c|d", 1);
        Check.run(x, "2ka;3kb;1kc");
        edge.allowedByLine(x, "'a,'bs/$/x/", "a|bx|cx|d @4");
        edge.allowedByLine(x, "'a,'as/$/y/", "a|bxy|cxy|dy @4");
        edge.allowedByLine(x, "'a,'cs/$/z/", "a|bxyz|cxyz|dyz @4");
        edge.allowedByLine(x, "'d,'bs/$/q/", "a|bxyz|cxyz|dyz @4");
        edge.allowedByLine(x, "'b,3s/$/q/", "a|bxyz|cxyzq|dyz @4");
        edge.allowedByLine(x, "2,'bs/$/r/", "a|bxyzr|cxyzqr|dyz @4");
        edge.sentence("5: a run is each order's own, and each play's own");
        plays("a|b|c|d", "1,2s/$/x/;2,3s/$/y/", "ax|bxy|cy|d @4");
        Subject y = Edge.text("a|b|c", 1);
        edge.allowedByLine(y, "2,9s/$/x/", "a|bx|cx @3");
        check.same("played again", 3, y.stream(3));
        check.same("it begins anew", "a|bxx|cxx @3", Edge.state(y));
        Subject one = Edge.text("a", 1);
        edge.allowedByLine(one, "1,2s/$/x/", "ax @1");
        edge.allowedByLine(one, "1,2s/$/x/", "axx @1");
        edge.allowedByLine(one, "2,1s/$/x/", "axx @1");
        edge.allowedByLine(one, "1,1s/$/x/", "axxx @1");
    }

    private void lookedAtOnce() {
        edge.sentence("5: a run is looked at once with each work; come to again with the same work, it holds as it was found then");
        plays("a|a|c", ":A;/a/,/c/>1;s/a/b/;TA", "  b|  b| c @3");
        plays("b|a|c", ":A;/a/,/c/>1;s/b/a/;TA", "a| a| c @3");
        plays("a|b|c", ":A;1,/y/>1;s/b/y/;TA", " a|  y| c @3");
        plays("a|b|c", ":A;1,/y/>1;s/[bc]/y/;TA", " a|  y|  y @3");
        plays("a|b|c", ":A;2,2>1;s/b/y/;TA", "a|  y|c @3");
        plays("a|b|c", ":A;1,2>1;s/b/y/;TA;j", " ab|c @2");
        plays("a|b|c", ":A;2,3s/$/x/;/c/b;j;bA", "abc @1");
        plays("a|b|c", ":A;1,2s/$/x/;/c/b;j;bA", "axbxcx @1");
        edge.sentence("5: a where with one address is looked at each time its order is come to, by the work as it is then");
        plays("a|b|c", ":A;2s/$/x/;/c/b;j;bA", "abxc @1");
        plays("a|b|c", ":A;1s/$/x/;/c/b;j;bA", "axbc @1");
        edge.sentence("5: as its order is first come to");
        plays("a|b|c", "s/a/b/;/b/,/b/s/$/x/", "bx|bx|c @3");
        plays("a|b|c|d", "1j;1,3s/$/x/", "ab|c|d @3");
        plays("a|b|c|d", "1j;2,3s/$/x/", "abx|cx|d @3");
        plays("a|b|c|d", "1,2s/$/x/;1j;1,2s/$/y/", "axb|c|d @3");
        plays("a|b|c|d", "1,2s/$/x/;2j", "ax|bxc|d @3");
        plays("a|b|c|d", "2,3s/$/x/;2j;s/$/y/", "ay|bxcy|dy @3");
        edge.sentence("5: a new work is looked at anew, also one that N has taken");
        plays("a|b|c", ":A;1,2s/$/x/;N;bA", "ax|bx|c @3");
        plays("a|b|c", "2,3s/$/x/;N;2,3s/$/y/;2,3s/$/z/", "a|byz|c @3");
    }

    private void notComeTo() {
        edge.sentence("5: if its order is not come to with a work, it is not looked at");
        plays("a|b|c|d", "2b;2,3s/$/x/", "a|b|c|d @4");
        plays("a|b|c|d", "2b;1,3s/$/x/", "ax|b|cx|d @4");
        plays("a|b|c|d|c", "3b;/b/,/c/s/$/x/", "a|bx|c|dx|cx @5");
        plays("a|b|c|d", "3d;2,/c/s/$/x/", "a|bx|dx @3");
        plays("a|b|c|d", "g/[ac]/1,/c/s/$/x/", "ax|b|cx|d @4");
        edge.sentence("5: if the number of the work is above the second one by then, the run is over, and it is asked anew whether it begins");
        plays("a|b|c|d", "3b;2,3s/$/x/", "a|bx|c|d @4");
        plays("b|c|b|c|b", "2b;/b/,2s/$/x/", "bx|c|bx|c|bx @5");
        plays("b|c|c|c|b", "2b;/b/,2s/$/x/", "bx|c|c|c|bx @5");
        plays("b|c|b|c", "2,3b;/[bc]/,3s/$/x/", "bx|c|b|cx @4");
        plays("b|c|b|c", "2,3b;/b/,4s/$/x/", "bx|c|b|cx @4");
        plays("a|b|c|d", "3b;2,$-1s/$/x/", "a|bx|c|d @4");
        plays("a|b|c|d", "2j;2,3s/$/x/", "a|bc|d @3");
        plays("a|b|c|d", "2j;1,2s/$/x/", "ax|bc|d @3");
        plays("a|b|c|d", "2j;1,3s/$/x/", "ax|bcx|d @3");
        plays("a|b|c|d", "2j;1,2cx", "bc|d @2");
    }

    private void nothingElse() {
        edge.sentence("5: what the acts do, and nothing else (the last line is the present one)");
        edge.changesOnly(true, "p = now out", "n = now out", "= = now out", "1h = now held", "H = now held",
            "2kb = now marks", "2ka = now marks", "1ka = now", "s/b/x/ = now text", "s/x/b/ = now", "z/b/x/ = now text",
            "z/x/b/ = now", ">1 = now text", ">0 = now", "<1 = now", "2a = now text", "2i = now text", "2c = now text",
            "1c = now text marks", "2d = text", "1d = text marks", "2v0 = now text", "2v1 = now", "2j = text",
            "1j = text", "3j = now", "2u = now text", "2r0 = now text", "2e = now text held", "3e = now",
            "1w0 = now", "2w1 = now", "w2 = now 2", "9w3 = now 3", "9p = now", "9H = now", "9w0 = now 0", "9ka = now",
            "{p} = now out", "g/b/p = now out", "g/x/p = now", "G/./p = now", "q = now", "N = now", "b = now",
            "bA;p;:A = now", "T = now", ":A = now", "1,2d = now text marks", "3q = now", "N;p = now out");
    }

    private void asForARange() {
        edge.sentence("5: s, z, >, <, n (its number), h, H (its row), k, p, = (its number) as for a range of that line alone");
        Subject x = Edge.text("a|b|c", 1);
        edge.allowedByLine(x, "n;=;p", "a|b|c @3");
        check.same("the out", "1 a|1|a|2 b|2|b|3 c|3|c", Check.out(x));
        edge.allowedByLine(x, "2h;3H", "a|b|c @3");
        check.same("held", "b|c", Check.held(x));
        edge.allowedByLine(x, "h", "a|b|c @3");
        check.same("held by h with each", "c", Check.held(x));
        edge.allowedByLine(x, "kb;2ka", "a|b|c @3");
        check.same("marks", "2 3 -1 -1 -1", Check.marks(x));
        edge.allowedByLine(x, "%>2;2<1;3<9;z/abc/xyz/", "  x| y|z @3");
        plays("aa|a", "s/a/b/2", "ab|a @2");
        plays("aab", "z/aba/xyz/", "xxy @1");
        Subject ten = Edge.empties(10);
        edge.allowedByLine(ten, "9,10n;9,10=");
        check.same("two digits", "9 |9|10 |10", Check.out(ten));
    }

    private void dueRows() {
        edge.sentence("5, a, r and u: the rows are due; behind the work, in the order in which they became due");
        plays("a|b", "ax|y;az", "a|x|y|z|b|x|y|z @8");
        plays("a|b", "a", "a||b| @4");
        plays("a|b", "1a|", "a|||b @4");
        Subject x = Edge.text("a|b", 1);
        Check.run(x, "2w1;1,2h");
        edge.allowedByLine(x, "1u;1r1;1az;1s/a/q/", "q|a|b|b|z|b @6");
        edge.allowedByLine(x, "r2", "q|a|b|b|z|b @6");
        edge.allowedByLine(x, "1,5d;r1", "b|b @2");
        edge.sentence("5: rows that are due are lines of the new text alone");
        plays("a|b", "ax;s/x/y/;=", "a|x|b|x @4");
        plays("a|b", "1ab;/b/s/b/c/", "a|b|c @3");
    }

    private void putAtOnce() {
        edge.sentence("5, i: the rows are put behind the new text at once");
        plays("a|b", "ix|y", "x|y|a|x|y|b @6");
        plays("a|b", "2ax;2iy;2iz", "a|y|z|b|x @5");
        plays("a|b", "2d;2ix", "a @1");
        plays("a|b", "2ix;2d", "a|x @2");
        plays("a|b", "2i", "a||b @3");
    }

    private void replacedLines() {
        edge.sentence("5, c: the work goes; its rows are put, but with two addresses only if the run is over with this work");
        plays("a|b|c|d", "cx", "x|x|x|x @4");
        plays("a|b|c|d", "%cx", "x|x|x|x @4");
        plays("a|b|c|d", "2cx|y", "a|x|y|c|d @5");
        plays("a|b|c|d", "2,3cx|y", "a|x|y|d @4");
        plays("a|b|c|d", "2,2cx", "a|x|c|d @4");
        plays("a|b|c|d", "2,1cx", "a|x|c|d @4");
        plays("a|b|c|d", "3,$cx", "a|b|x @3");
        plays("a|b|c|d", "3,9cx", "a|b @2");
        plays("a|b|c|d", "3,$+1cx", "a|b @2");
        plays("a|b|c|d", "/b/,/c/cx", "a|x|d @3");
        plays("a|b|c|d", "/b/,/q/cx", "a @1");
        plays("a|b|c|d", "/b/,.cx", "a|x|d @3");
        plays("a|b|c|d", "2{1,3cx}", "a|b|c|d @4");
        plays("a|b|c|d", "2{2,3cx}", "a|c|d @3");
        plays("a|b|c|d", "2,3{cx}", "a|x|x|d @4");
        plays("a|b|c|d", "g/[bc]/cx", "a|x|x|d @4");
        plays("a|b|c|d", "3b;2,3cx", "a|c|d @3");
        plays("a|b|c|d", "2ax;2iy;2cz", "a|y|z|x|c|d @6");
        plays("a|b|c|d", "2ax;2iy;2,3cz", "a|y|x|z|d @5");
    }

    private void parting() {
        edge.sentence("5, v: if the work has more characters than the number, the rest is due as one row");
        plays("abc|d", "v3", "abc|d @2");
        plays("abc|d", "v2", "ab|c|d @3");
        plays("abc|d", "v0", "|abc||d @4");
        plays("|d", "1v0", "|d @2");
        plays("abcd", "v3;v2;v1", "a|d|c|b @4");
        plays("abcd", "v1;s/a/xyz/;v1", "x|bcd|yz @3");
        plays(Edge.ROW30, "v29", Edge.ROW30.substring(0, 29) + "|9 @2");
        plays(Edge.ROW30, "v30", Edge.ROW30 + " @1");
        plays(Edge.ROW30, "v99", Edge.ROW30 + " @1");
        plays("abc", "v1;d", "bc @1");
    }

    private void joining() {
        edge.sentence("5, j: the next line is taken away from those to come; without a next one nothing is done");
        plays("a|b|c", "j", "ab|c @2");
        plays("a|b|c", "3j", "a|b|c @3");
        plays("a", "j;j", "a @1");
        plays("a|b|c", "j;j", "abc @1");
        plays("a|b|c", "j;j;j", "abc @1");
        plays("a|b|c", "2j;s/$/x/", "ax|bcx @2");
        plays("|", "j", " @1");
        edge.sentence("5, j: whose number is that line's then");
        plays("a|b|c", "1j;2s/$/x/;1s/$/y/", "abx|c @2");
        plays("a|b|c", "1j;j;$s/$/x/", "abcx @1");
        Subject x = Edge.text("a|b|c", 1);
        edge.allowedByLine(x, "=;j;=;n");
        check.same("the out", "1|2|2 ab|3|3|3 c", Check.out(x));
        edge.sentence("0: a row is 0 to 30 characters, also by j");
        plays("0".repeat(15) + "|" + "1".repeat(15), "j", "0".repeat(15) + "1".repeat(15) + " @1");
        refuses("0".repeat(15) + "|" + "1".repeat(16), "j", 4);
        refuses("a|b|" + Edge.ROW30, "2j", 4);
        plays("a||" + Edge.ROW30, "2j", "a|" + Edge.ROW30 + " @2");
    }

    private void exchanging() {
        edge.sentence("5, e: refused by 5, if not just one row is held; that row and that of the work change places");
        refuses("a|b|c", "e", 5);
        Subject x = Edge.text("a|b|c", 1);
        Check.run(x, "1,2h");
        edge.refusedByLine(x, "e", 5);
        edge.refusedByLine(x, "3e", 5);
        Check.run(x, "2h");
        edge.allowedByLine(x, "e", "b|a|b @3");
        check.same("held", "c", Check.held(x));
        check.same("the same lines", "0 1 2", Check.ids(x));
        edge.allowedByLine(x, "2e;2e", "b|a|b @3");
        check.same("held as it was", "c", Check.held(x));
        edge.allowedByLine(x, "h;2e", "b|a|b @3");
        edge.refusedByLine(x, "2h;2H;2e", 5);
        plays("a|b|c", "1h;e", "a|a|b @3");
        plays("|b", "1h;2e", "| @2");
    }

    private void files() {
        edge.sentence("5, w: each file that a w of the script names is made one without rows at the beginning");
        Subject x = Edge.text("a|b|c", 1);
        Check.run(x, "w0;w1;w2;w3");
        edge.allowedByLine(x, "9w0;b;w1;g/q/w2");
        check.same("file 0", 0, x.fileRows(0));
        check.same("file 1", 0, x.fileRows(1));
        check.same("file 2", 0, x.fileRows(2));
        check.same("file 3 is not named", 3, x.fileRows(3));
        edge.allowedByLine(x, "1r3;/b/w1;r1;s/*/x/;w1", "x|a|b|c|x|x|b|x|x|b|x @11");
        check.same("file 1", "x|b|x|x", Check.file(x, 1));
        Subject y = new Subject();
        Check.run(y, "aa;w1;d");
        edge.allowedByLine(y, "w1", " @0");
        check.same("in a text without lines", 0, y.fileRows(1));
        edge.sentence("5, w: the row comes behind those of the file; more than 40 rows are refused by 4");
        Subject full = Edge.empties(40);
        edge.allowedByLine(full, "w0");
        check.same("40 rows", 40, full.fileRows(0));
        edge.refusedByLine(full, "w0;40w0", 4);
        edge.allowedByLine(full, "40b;w0;1w0");
        check.same("39 and one more", 40, full.fileRows(0));
        edge.refusedByLine(full, "w1;w2;1w2", 4);
        Subject few = Edge.empties(1);
        edge.refusedByLine(few, ":A;w0;bA", 4);
    }

    private void groups() {
        edge.sentence("5, g, G and a block: the orders are done, if the work holds the pattern (does not, for G; always, for a block)");
        plays("a|b|a", "g/a/s/$/x/", "ax|b|ax @3");
        plays("a|b|a", "G/a/s/$/x/", "a|bx|a @3");
        plays("a|b|a", "{s/$/x/}", "ax|bx|ax @3");
        plays("a|b|a", "g/q/s/$/x/", "a|b|a @3");
        plays("a|b|a", "G/q/s/$/x/", "ax|bx|ax @3");
        plays("a|b|a", "g/a/{s/a/b/;s/b/c/}", "c|b|c @3");
        plays("a|b|a", "2,3g/a/s/$/x/", "a|b|ax @3");
        edge.sentence("5, g, G and a block: each if its own where holds");
        plays("a|b|a", "g/a/{1s/$/x/;3s/$/y/;2s/$/z/}", "ax|b|ay @3");
        plays("a|b|a", "G/b/$s/$/x/", "a|b|ax @3");
        plays("a|b|a", "{2,3s/$/x/;/x/s/$/y/}", "a|bxy|axy @3");
        plays("a|b|a|b", "g/a/{1,2s/$/x/}", "ax|b|a|b @4");
        plays("a|b|a|b", "g/a/{1,/q/s/$/x/}", "ax|b|ax|b @4");
    }

    private void ending() {
        edge.sentence("5, q: the work is put, what is due, too, and all lines to come behind it as they are; that is the end");
        plays("a|b|c", "s/$/x/;q", "ax|b|c @3");
        plays("a|b|c", "ax;2q;s/$/y/", "ay|x|b|x|c @5");
        plays("a|b|c", "3q;s/$/x/", "ax|bx|c @3");
        plays("a|b|c", "9q;s/$/x/", "ax|bx|cx @3");
        plays("a|b|c", "2d;2q;s/$/x/", "ax|cx @2");
        plays("a|b|c", "j;q", "ab|c @2");
        Subject x = Edge.text("a|b|c", 1);
        Check.run(x, "3ka");
        edge.allowedByLine(x, "1ax;1q");
        check.same("ids", "0 3 1 2", Check.ids(x));
        check.same("marks", 4, x.mark(0));
        edge.allowedByLine(x, "s/$/y/", "ay|xy|by|cy @4");
        edge.refusedByLine(Edge.empties(40), "1a;1q", 4);
        edge.allowedByLine(Edge.empties(39), "1a;1q");
        edge.refusedByLine(Edge.empties(40), "39i;39q", 4);
    }

    private void stepping() {
        edge.sentence("5, N: the work is put, what is due, too; then the next line is taken; without a next one that is the end");
        plays("a|b|c", "N;s/$/x/", "a|bx|c @3");
        plays("a|b", "N;s/$/x/", "a|bx @2");
        plays("a", "N;s/$/x/", "a @1");
        plays("a", "ax;s/$/y/;N;s/$/z/", "ay|x @2");
        plays("a|b|c", "N;N;s/$/x/", "a|b|cx @3");
        plays("a|b|c", "N;N;N;s/$/x/", "a|b|c @3");
        plays("a|b|c", "ax;N;ay", "a|x|b|y|c|x @6");
        plays("a|b|c", "2N;s/$/x/", "ax|b|cx @3");
        plays("a|b|c", "$N;s/$/x/", "ax|bx|c @3");
        plays("a|b|c|d", "N;d", "a|c @2");
        plays("a|b|c", "1N;q;s/$/x/", "a|b|c @3");
        come(3, "a|b|c", "1N;=;q");
        edge.refusedByLine(Edge.empties(40), "40a;40N", 4);
        edge.refusedByLine(Edge.empties(40), "39a;N", 4);
    }

    private void jumping() {
        edge.sentence("5, b and T: to end the orders is to end them for this work; 6 where a jump would be gone");
        plays("a|b|c", "2b;s/$/x/", "ax|b|cx @3");
        plays("a|b|c", "b;l", "a|b|c @3");
        plays("a|b|c", "bA;l;:A;s/$/x/", "ax|bx|cx @3");
        plays("a|b|c", "bA;l;:A;b;:A;l", "a|b|c @3");
        plays("a|b|c", "bA;l;:A", "a|b|c @3");
        plays("a|b|c", "9bX;TX", "a|b|c @3");
        refuses("a|b|c", "3bX", 6);
        refuses("a|b|c", "s/c/d/;TX", 6);
        refuses("a|b|c", "s/c/c/;TX", 6);
        plays("a|b", ":A;s/$/x/;:A;s/x/y/", "ay|by @2");
        come(2 * 4, "a|b", ":A;p;:A;p");
        edge.sentence("5, T asks since this work was taken");
        plays("a|b|a", "s/a/x/;T;s/$/y/", "x|by|x @3");
        plays("a|b|a", "s/a/x/;N;T;s/$/y/", "x|by|x @3");
        plays("a|a|a", "s/a/x/;N;s/a/z/;T;s/$/y/", "x|z|x @3");
        plays("a|b", "{s/a/x/};T;s/$/y/", "x|by @2");
        plays("a|b", "g/a/s/a/a/;T;s/$/y/", "a|by @2");
        plays("a|b", "z/a/x/;>0;T;s/$/y/", "xy|by @2");
        edge.sentence("5, T: or since the last T that went on elsewhere; b changes nothing of that");
        plays("a|b", "s/a/x/;TA;b;:A;T;s/$/y/", "xy|b @2");
        plays("a|b", "s/a/x/;bA;:A;T;s/$/y/", "x|by @2");
        plays("a|b", "s/a/x/;9TB;T;s/$/y/;:B", "x|by @2");
        plays("a|b", "s/a/x/;TA;:A;s/x/z/;T;s/$/y/", "z|by @2");
    }

    private void notByLine() {
        edge.sentence("5: l, o, O, m or t, and a where with + or - behind a point, a mark or a pattern, is refused by 8 as it is come to");
        for (String orders : new String[] {"l", "o0", "O0", "m0", "t0", "9l", "0o1", "9O1", "9m0", "9t0", "%l", "1,2m9", "'am0", "/q/t0",
            ".+1p", ".-1p", ".+0p", ".-0p", "'a+1p", "'a-0p", "/q/+1p", "?q?-1p", "9,.+1p", "9,'a-1p", "9,/q/+0p", ".+0,9p", "'a+0,9p",
            "/q/-1,9p", "1,$l", "{l}", "{9l}", "g/a/l", "G/q/9m0", "g/a/{p;.+1p}", ".+1{p}", ".-1g/q/p", "/a/+1q",
            ".+1b", "'a+1T", "?a?+1N", ".+0bX"}) {
            refuses("a|b", orders, 8);
        }
        edge.sentence("5: with + and - behind a number or $ it is not");
        for (String orders : new String[] {"1+0p", "$-1p", "$+1p", "9-9p", "1+1,2-1p", "1,$-1p", ".,$+1p", "/a/,1+1p", "'a,9+9p"}) {
            plays("a|b", orders, "a|b @2");
        }
        Subject both = Edge.text("a|b", 1);
        edge.refusedByLine(both, ".+1,'a-1p", 8);
        edge.allowedByLine(both, ".,'ap", "a|b @2");
        edge.refusedByLine(both, "/a/+0p", 8);
        edge.allowedByLine(both, "/a/p", "a|b @2");
        edge.sentence("5: one that is not come to is not refused");
        plays("a|b", "b;l", "a|b @2");
        plays("a|b", "q;m0", "a|b @2");
        plays("a|b", "d;o0", " @0");
        plays("a|b", "9{l}", "a|b @2");
        plays("a|b", "g/q/.+1p", "a|b @2");
        plays("a|b", "N;N;l", "a|b @2");
        edge.allowedByLine(new Subject(), "l;m0;.+1p", " @0");
        refuses("a|b", "u;l", 5);
        refuses("a|b", "l;u", 8);
        refuses("a|b", "2bX;l", 8);
    }

    private void goneWork() {
        edge.sentence("5: when the work goes (by c and d), what is due is put all the same, and no orders are come to any more with it");
        plays("a|b|c", "2ax;2d;2ay", "a|x|c @3");
        plays("a|b|c", "2ax;2cz;2ay", "a|z|x|c @4");
        plays("a|b|c", "2{ax;d;ay};2az", "a|x|c @3");
        plays("a|b|c", "g/b/{d;l}", "a|c @2");
        plays("a|b|c", "2d;/b/bX;2q;s/$/x/", "ax|cx @2");
        plays("abc|b", "v1;1d", "bc|b @2");
        come(1 + 2 + 2, "a|b|c", "1d;2,3p");
        come(2 + 3 + 3, "a|b|c", "g/a/d;p;p");
        Subject x = Edge.text("a|b|c", 1);
        Check.run(x, "2ka");
        edge.allowedByLine(x, "2kb;2kc;2d");
        check.same("its marks stand at none", "-1 -1 -1 -1 -1", Check.marks(x));
    }

    private void fortyLines() {
        edge.sentence("5: 4 is a new text that would have more than 40 lines as something is put into it");
        edge.allowedByLine(Edge.empties(20), "a");
        edge.refusedByLine(Edge.empties(21), "a", 4);
        edge.allowedByLine(Edge.empties(20), "i");
        edge.refusedByLine(Edge.empties(21), "i", 4);
        edge.allowedByLine(Edge.empties(39), "1a");
        edge.refusedByLine(Edge.empties(39), "1a|", 4);
        edge.refusedByLine(Edge.empties(40), "1a", 4);
        edge.refusedByLine(Edge.empties(40), "40a", 4);
        edge.refusedByLine(Edge.empties(40), "40i", 4);
        edge.allowedByLine(Edge.empties(40), "cx");
        edge.refusedByLine(Edge.empties(40), "40c|", 4);
        edge.allowedByLine(Edge.empties(40), "39d;40c|");
        edge.allowedByLine(Edge.empties(40), "1d;40a");
        edge.allowedByLine(Edge.empties(40), "39d;40i");
        edge.allowedByLine(Edge.empties(40), "40a;40d");
        edge.allowedByLine(Edge.empties(40), "40i;40d");
        edge.refusedByLine(Edge.empties(40), "40i;40a;40d", 4);
        edge.refusedByLine(Edge.empties(40), "40i|;40d", 4);
        edge.allowedByLine(Edge.empties(40), "39j;40a");
        Subject parted = Edge.empties(40);
        Check.run(parted, "40cab");
        edge.refusedByLine(parted, "v1", 4);
        edge.allowedByLine(parted, "1d;v1");
        Subject x = Edge.empties(39);
        Check.run(x, "1h;1,2w0");
        edge.allowedByLine(x, "39u");
        check.same("40 lines by u", 40, x.lines());
        edge.refusedByLine(x, "40u", 4);
        x.undo();
        edge.refusedByLine(x, "39r0", 4);
        edge.allowedByLine(x, "1d;39r0");
        check.same("40 lines by r", 40, x.lines());
        Subject full = Edge.empties(40);
        edge.allowedByLine(full, "20cx");
        check.same("the id of the last of 40 lines", 39, full.id(40));
        check.same("the id of a new one among 40", 40, full.id(20));
        edge.allowedByLine(full, "q");
        check.same("the id of the last of 40 lines", 39, full.id(40));
        Subject many = Edge.empties(20);
        Check.run(many, "%h;2,$d");
        edge.refusedByLine(many, "u;u;ax;d", 4);
        edge.refusedByLine(many, "u;u", 4);
        edge.refusedByLine(many, "u;u;u;u", 4);
        edge.refusedByLine(many, "u;u;u;u;bX", 6);
        edge.allowedByLine(many, "u;u;d");
        check.same("40 that were due", 40, many.lines());
        edge.sentence("5: rows that are due count only as they are put");
        edge.refusedByLine(Edge.empties(40), "1a;1bX", 6);
        edge.refusedByLine(Edge.empties(40), "1i;40bX", 6);
        edge.refusedByLine(Edge.empties(40), "40i;40bX", 6);
        edge.refusedByLine(Edge.empties(40), "40i|;40bX", 4);
        edge.refusedByLine(Edge.empties(39), "a|;2bX", 6);
    }

    private void otherLimits() {
        edge.sentence("5: 4 as above: rows, what is held, the out");
        refuses(Edge.ROW30, ">1", 4);
        plays(Edge.ROW30.substring(1), ">1", " " + Edge.ROW30.substring(1) + " @1");
        refuses(Edge.ROW30, "s/0/ab/", 4);
        plays(Edge.ROW30, "s/0/a/", "a" + Edge.ROW30.substring(1) + " @1");
        refuses(Edge.ROW30.substring(1), "n", 4);
        plays(Edge.ROW30.substring(2), "n", Edge.ROW30.substring(2) + " @1");
        plays("a|" + Edge.ROW30, "1>9;1<9;2<9", "a|" + Edge.ROW30 + " @2");
        Subject x = Edge.empties(40);
        edge.allowedByLine(x, "H");
        check.same("40 held", 40, x.held());
        edge.refusedByLine(x, "1H", 4);
        edge.allowedByLine(x, "1h;2,40H");
        edge.refusedByLine(x, "1h;H", 4);
        edge.allowedByLine(x, "p;n;1,20=");
        check.same("100 rows in the out", 100, x.outs());
        edge.refusedByLine(x, "40p", 4);
        edge.refusedByLine(x, "40n", 4);
        edge.refusedByLine(x, "40=", 4);
        x.clearOut();
        edge.refusedByLine(x, "p;n;1,21=", 4);
        check.same("none in the out", 0, x.outs());
    }

    private void nothingHeld() {
        edge.sentence("5: 5 as above, for u, too");
        refuses("a|b", "u", 5);
        refuses("a|b", "2u", 5);
        refuses("a|b", "2e", 5);
        plays("a|b", "9u;9e", "a|b @2");
        plays("a|b", "h;u", "a|a|b|b @4");
        plays("a|b", "h;e", "a|b @2");
        refuses("a|b", "1,2H;2e", 5);
        plays("a|b", "1H;2e", "a|a @2");
    }

    private void sameAsOverTheWhole() {
        edge.sentence("always (4): %s, %z, %> and %< give the same text over the whole and line by line, if neither is refused");
        for (int seed = 0; seed < 40; seed++) {
            for (String orders : new String[] {"%s/a/bb/g;%>3;%<2;%z/ab/ba/", "%s/(.)\\1/x/2;%s/()/ /", "%s/*b/&c/;%<9;%z/ c/c /", "%s/$/e/9;%>0"}) {
                Subject x = new Subject();
                x.sample(seed * 997, 12);
                Subject y = new Subject();
                y.sample(seed * 997, 12);
                edge.allowed(x, orders);
                edge.allowedByLine(y, orders, Check.text(x) + " @12");
                check.same("the same lines", Check.ids(x), Check.ids(y));
            }
        }
    }
}
