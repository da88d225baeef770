/** Boundaries that parts 0, 2 and 3 name, and promises 1 to 5: the tape, patterns, the grammar of orders, faults. */
public final class EdgeTapeTest {
    private final Edge edge = new Edge();
    private final Check check = edge.check;

    public static void main(String[] args) {
        EdgeTapeTest test = new EdgeTapeTest();
        test.characters();
        test.signsOfTheTape();
        test.theTapeStays();
        test.severalExceptions();
        test.notNothing();
        test.counts();
        test.groupsOfPatterns();
        test.digitsOfPatterns();
        test.eachCharacterAlone();
        test.fits();
        test.headAndTail();
        test.severalMatches();
        test.findsInARow();
        test.numbers();
        test.marksFilesLabels();
        test.rows();
        test.digitsOfReplacing();
        test.turning();
        test.labelsWithoutWhere();
        test.insideOfBlocks();
        test.lengthsOfBlocks();
        test.whateverLength();
        test.onTapeAfterTheOther();
        test.prefixes();
        System.exit(test.check.close());
    }

    private static boolean isCharacter(int sign) {
        return sign >= 'a' && sign <= 'z' || sign >= '0' && sign <= '9' || sign == ' ';
    }

    private void characters() {
        edge.sentence("0: a character is a small letter, a digit or a blank");
        for (int sign = 32; sign <= 126; sign++) {
            String s = "" + (char) sign;
            boolean is = isCharacter(sign);
            check.same("a" + s, is || s.equals("|") ? -1 : s.equals(";") ? 2 : 1, Check.fault("a" + s));
            check.same("i|" + s, is || s.equals("|") ? -1 : s.equals(";") ? 3 : 2, Check.fault("i|" + s));
            check.same("s/a/" + s + "/", is || s.equals("&") ? -1 : s.equals("/") ? 5 : 4, Check.fault("s/a/" + s + "/"));
            check.same("z/" + s + "/a/", is ? -1 : 2, Check.fault("z/" + s + "/a/"));
            check.same("z/a/" + s + "/", is ? -1 : 4, Check.fault("z/a/" + s + "/"));
            boolean alone = is || ".*^$".indexOf(sign) >= 0;
            check.same("pattern " + s, alone ? -1 : "[(".indexOf(sign) >= 0 ? 1 : 0, Check.patternFault(s));
            boolean plain = is || ".*".indexOf(sign) >= 0;
            check.same("pattern (" + s + ")", plain ? -1 : "[)".indexOf(sign) >= 0 ? 2 : 1, Check.patternFault("(" + s + ")"));
            check.same("pattern [" + s + "]", is ? -1 : s.equals("^") ? 2 : 1, Check.patternFault("[" + s + "]"));
            check.same("pattern [a" + s + "]", is ? -1 : s.equals("]") ? 3 : 2, Check.patternFault("[a" + s + "]"));
        }
    }

    private void signsOfTheTape() {
        edge.sentence("0: the tape has at most 60 signs (codes 32 to 126), empty at first");
        Subject x = new Subject();
        check.same("wipe of an empty tape", 0, x.wipe());
        check.same("fault of an empty tape", 0, x.fault());
        check.same("patternFault of an empty tape", 0, x.patternFault());
        check.same("the lowest sign", 1, x.type(32));
        check.same("the highest sign", 2, x.type(126));
        for (int sign : new int[] {31, 127}) {
            edge.throwing(x, "type(" + sign + ")", Edge.IAE, () -> x.type(sign));
        }
        for (int sign : Edge.NEVER) {
            if (sign != 101) {
                edge.throwing(x, "type(" + sign + ")", Edge.IAE, () -> x.type(sign));
            }
        }
        check.same("a sign that is refused is not on the tape", 3, x.type('a'));
        for (int sign = 4; sign <= 60; sign++) {
            check.same("sign " + sign, sign, x.type(32 + sign));
        }
        edge.throwing(x, "sign 61", Edge.ISE, () -> x.type('a'));
        check.same("it has 60", 60, x.wipe());
        check.same("then none", 0, x.wipe());
        for (int sign = 32; sign <= 126; sign++) {
            check.same("each sign of the span", 1, x.type(sign));
            x.wipe();
        }
        Subject full = new Subject();
        Check.type(full, "a" + "|".repeat(59));
        check.same("60 signs have no fault", -1, full.fault());
        edge.throwing(full, "sign 61", Edge.ISE, () -> full.type('x'));
        check.same("nor behind a 61st that was refused", -1, full.fault());
    }

    private void theTapeStays() {
        edge.sentence("0: the tape stays until it is wiped, whatever is done with it");
        Subject x = new Subject();
        Check.type(x, "ab;p");
        x.fault();
        x.patternFault();
        x.run();
        x.keep(0);
        x.play(0);
        x.stream(0);
        x.undo();
        x.undoRun();
        x.sample(1, 1);
        x.clearOut();
        x.differ(0);
        x.pairOf(0, 1);
        check.throwing("find", Edge.ISE, () -> x.find(true));
        check.throwing("findStart", Edge.ISE, () -> x.findStart(1));
        check.same("orders of it are still done", 2, x.run());
        check.same("no fault", -1, x.fault());
        check.same("its signs", 4, x.wipe());
        Check.type(x, "b");
        x.find(false);
        x.findStart(1);
        x.findEnd(1);
        check.same("a pattern stays", -1, x.patternFault());
        check.same("it is one sign", 1, x.wipe());
        Check.keep(x, 1, "=");
        Check.type(x, "9d");
        x.play(1);
        x.stream(1);
        check.same("another script does not change it", 0, x.run());
        check.same("by 1", 1, x.reason());
    }

    private void severalExceptions() {
        edge.sentence("0: if several exceptions apply, the one that the throws clauses name first is thrown");
        Subject x = new Subject();
        for (int i = 0; i < 60; i++) {
            x.type('+');
        }
        edge.throwing(x, "type(31) with a full tape", Edge.IAE, () -> x.type(31));
        edge.throwing(x, "type(32) with a full tape", Edge.ISE, () -> x.type(32));
        edge.throwing(x, "keep(4) with a fault", Edge.IOOBE, () -> x.keep(4));
        edge.throwing(x, "keep(3) with a fault", Edge.ISE, () -> x.keep(3));
        edge.throwing(x, "play(-1)", Edge.IOOBE, () -> x.play(-1));
        edge.throwing(x, "play(0) of none", Edge.ISE, () -> x.play(0));
        edge.throwing(x, "stream(4)", Edge.IOOBE, () -> x.stream(4));
        edge.throwing(x, "stream(3) of none", Edge.ISE, () -> x.stream(3));
        edge.throwing(x, "findStart(1) without lines, with a fault", Edge.IOOBE, () -> x.findStart(1));
        edge.throwing(x, "findEnd(1) without lines, with a fault", Edge.IOOBE, () -> x.findEnd(1));
        x.sample(1, 20);
        x.sample(1, 20);
        edge.throwing(x, "sample(65536, 1) with 40 lines", Edge.IAE, () -> x.sample(65536, 1));
        edge.throwing(x, "sample(1, 21) with 40 lines", Edge.IAE, () -> x.sample(1, 21));
        edge.throwing(x, "sample(1, 1) with 40 lines", Edge.ISE, () -> x.sample(1, 1));
        edge.throwing(x, "findStart(41) with a fault", Edge.IOOBE, () -> x.findStart(41));
        edge.throwing(x, "findStart(40) with a fault", Edge.ISE, () -> x.findStart(40));
        edge.throwing(x, "findEnd(0) with a fault", Edge.IOOBE, () -> x.findEnd(0));
        edge.throwing(x, "findEnd(1) with a fault", Edge.ISE, () -> x.findEnd(1));
    }

    private void notNothing() {
        edge.sentence("2: a pattern is not nothing at all");
        edge.fitting("^", "$", "^$", "a", "*", "()", "^()$");
        edge.unfit("!", "!/", "!?");
        edge.sound("/^/d", "/$/d", "/^$/d", "?$?d", "s/^//", "g/$/d");
        edge.faulty("/!/d", "?!?d", "s/!//", "g/!/d", "G/!/d", "1,/!/d", "m/!/", "t?!?");
        edge.sentence("2: ^ stands first alone, $ last alone");
        edge.unfit("^!^", "a!^", "$!$", "$!^", "$!a", "^$!$", "(!^)", "(!$)", "a$!b", "(a)$!\\1");
    }

    private void counts() {
        edge.sentence("2: a pattern has at most 12 items");
        String twelve = "abcdefghijkl";
        edge.fitting(twelve, "^" + twelve, twelve + "$", "^" + twelve + "$", "[a][b][^c].......**", "()()..........");
        for (String item : new String[] {"m", " ", "7", ".", "*", "(", "[", "\\"}) {
            edge.unfit(twelve + "!" + item);
        }
        edge.unfit("(a)bcdefghijkl!\\1", "(a)bcdefghijkl!m", "............!.", "[a][b][c][d][e][f][g][h][i][j][k][l]![m]");
        edge.fitting("(a)bcdefghijk\\1", "(a)\\1\\1\\1\\1\\1\\1\\1\\1\\1\\1\\1");
        edge.unfit("(a)\\1\\1\\1\\1\\1\\1\\1\\1\\1\\1\\1!\\1", "(a)\\1\\1\\1\\1\\1\\1\\1\\1\\1\\1\\1!b");
        edge.finds(twelve + "$", "x" + twelve, 1, 13);
        edge.finds(twelve + "$", "x" + twelve + "m", -1, -1);
        edge.sentence("2: a pattern has at most two stars");
        edge.fitting("*", "**", "*a*", "(*)*", "(**)", "(*)(*)", "^*b*$");
        edge.unfit("**!*", "*a*b!*", "(*)*!*", "(**!*)", "(*)(*!*)", "(*)(*)!*", "(*)*\\1!*");
    }

    private void groupsOfPatterns() {
        edge.sentence("2: a pattern has at most two groups");
        edge.fitting("()", "()()", "(a)b(c)", "(a)(b)\\1\\2");
        edge.unfit("()()!()", "(a)b(c)!(", "()()\\1!(");
        edge.sentence("2: what stands in a group has at most 12 items, too");
        edge.fitting("(abcdefghijkl)", "(............)", "([a][b][c][d][e][f][g][h][i][j][k][l])", "(**..........)");
        edge.unfit("(abcdefghijkl!m)", "(abcdefghijkl!.)", "(abcdefghijkl!*)", "(abcdefghijkl![a])", "(a)(abcdefghijkl!m)");
        edge.sentence("2: what stands in a group does not count as items beside it");
        edge.fitting("(abcdefghijkl)(abcdefghijkl)cdefghijkl", "(abcdefghijkl)bcdefghijkl", "abcdefghijk(abcdefghijkl)");
        edge.unfit("(abcdefghijkl)(abcdefghijkl)cdefghijkl!m", "(abcdefghijkl)bcdefghijkl!m", "abcdefghijkl!(a)");
        edge.finds("(abcdefghijkl)(mnopqrstuvwx)y", "9abcdefghijklmnopqrstuvwxyz", 1, 26);
        edge.sentence("2: in a group there are plain ones alone");
        edge.unfit("(!(a))", "(a)(!\\1)", "(a!^)", "(a!$)", "(a!/)", "(!", "(a!");
    }

    private void digitsOfPatterns() {
        edge.sentence("2: the digit behind \\ is 1, or 2, and tells a group that stands ahead and is closed");
        edge.fitting("()\\1", "()()\\1", "()()\\2", "()a\\1()\\2\\1");
        edge.unfit("!\\1", "a!\\1", "()\\!0", "()\\!2", "()\\!3", "()()\\!0", "()()\\!3", "()()\\!9", "()\\1()\\!3");
        edge.unfit("()\\!2()", "()\\!a", "()\\!\\", "()\\!", "(a!\\1)", "()(a!\\1)", "()(a!\\2)");
    }

    private void eachCharacterAlone() {
        edge.sentence("2: a character fits itself, and no other one");
        String characters = "abcdefghijklmnopqrstuvwxyz0123456789 ";
        for (int i = 0; i < characters.length(); i++) {
            String one = characters.substring(i, i + 1);
            String others = characters.substring(0, i) + characters.substring(i + 1);
            Subject x = Check.with(one, others.substring(0, 18), others.substring(18));
            Check.type(x, one);
            check.same(one + " in itself", 0, x.findStart(1));
            check.same(one + " in others", -1, x.findStart(2));
            check.same(one + " in others", -1, x.findStart(3));
            Check.type(x, "[^" + one + "]");
            check.same("[^" + one + "] in itself", -1, x.findStart(1));
            check.same("[^" + one + "] in others", 0, x.findStart(2));
            Check.type(x, "[" + others + "]");
            check.same("[ ] of the others in " + one, -1, x.findStart(1));
            Check.type(x, "[^" + others + "]");
            check.same("[^ ] of the others in " + one, 1, x.findEnd(1));
            check.same("[^ ] of the others in others", -1, x.findEnd(3));
            Check.type(x, ".");
            check.same("a point fits it", 1, x.findEnd(1));
        }
    }

    private void fits() {
        edge.sentence("2: a character fits itself; a point any one character; [ ] one of its; [^ ] one that is none of its");
        edge.finds("a", "", -1, -1);
        edge.finds("a", "b", -1, -1);
        edge.finds("z", "yz", 1, 2);
        edge.finds("0", "90", 1, 2);
        edge.finds(" ", "a ", 1, 2);
        edge.finds(" ", "a0", -1, -1);
        edge.finds(".", "", -1, -1);
        edge.finds(".$", " ", 0, 1);
        edge.finds(".", "9", 0, 1);
        edge.finds("...", "ab", -1, -1);
        edge.finds("...", "abc", 0, 3);
        edge.finds("[az09 ]", "by81 ", 4, 5);
        edge.finds("[az09 ]", "by81", -1, -1);
        edge.finds("[^az09 ]", "az09 ", -1, -1);
        edge.finds("[^az09 ]", "az09 b", 5, 6);
        edge.finds("[^a]", "", -1, -1);
        edge.finds("[aa]", "a", 0, 1);
        edge.sentence("2: a star fits any number of characters, also none");
        edge.finds("*", "", 0, 0);
        edge.finds("*", Edge.ROW30, 0, 30);
        edge.finds("a*b", "ab", 0, 2);
        edge.finds("a*b", "a" + "c".repeat(28) + "b", 0, 30);
        edge.finds("a*b", "ba", -1, -1);
        edge.sentence("2: \\ and a digit fit the very characters that the group fits");
        edge.finds("(..)\\1", "abab", 0, 4);
        edge.finds("(..)\\1", "abac", -1, -1);
        edge.finds("(..)\\1", "aba", -1, -1);
        edge.finds("()\\1", "", 0, 0);
        edge.finds("(.)(.)\\2\\1", "abba", 0, 4);
        edge.finds("(.)(.)\\1\\2", "abba", -1, -1);
        edge.finds("(*)\\1$", "abab", 0, 4);
        edge.finds("^(*)\\1$", "aba", -1, -1);
        edge.finds("^(*)\\1$", "", 0, 0);
        edge.finds("^(*)\\1$", "ab".repeat(15), -1, -1);
        edge.finds("^(*)\\1$", "abc".repeat(10), 0, 30);
    }

    private void headAndTail() {
        edge.sentence("2: with ^ the place is 0; with $ the end is that of the row");
        edge.finds("^a", "ab", 0, 1);
        edge.finds("^b", "ab", -1, -1);
        edge.finds("b$", "ab", 1, 2);
        edge.finds("a$", "ab", -1, -1);
        edge.finds("^$", "", 0, 0);
        edge.finds("^$", " ", -1, -1);
        edge.finds("^", "ab", 0, 0);
        edge.finds("$", "ab", 2, 2);
        edge.finds("$", Edge.ROW30, 30, 30);
        edge.finds("a*$", "ba b", 1, 4);
        edge.finds("^ab$", "ab", 0, 2);
        edge.finds("^ab$", "abc", -1, -1);
    }

    private void severalMatches() {
        edge.sentence("2: the match at a place is the one in which the first star fits the most, then the second one");
        edge.finds("a*a", "aaab", 0, 3);
        edge.finds("a*b*c", "abcbc", 0, 5);
        edge.finds("(*)b\\1", "abab", 0, 3);
        Subject x = Check.with("aabaab");
        edge.allowed(x, "s/(*)a(*)/1\\1 2\\2 /", "1aaba 2b  @1");
        edge.allowed(x, "caabaab", "aabaab @1");
        edge.allowed(x, "s/(*)aa(*)b/1\\1 2\\2 /", "1aab 2  @1");
        edge.allowed(x, "cabc", "abc @1");
        edge.allowed(x, "s/(*)(*)/\\2x\\1/", "xabc @1");
        edge.sentence("2: the find is the match at the lowest place, not the longest one");
        edge.finds("(*)\\1b", "aabb", 0, 3);
        edge.finds("a.*", "babbb", 1, 5);
        edge.finds("..*", "a", -1, -1);
        edge.finds("a()", "ba aa", 1, 2);
    }

    private void findsInARow() {
        edge.sentence("2: the next find is the match at the lowest place from the end of the one ahead on");
        edge.allowed(Check.with("aaaa"), "s/aa/b/g", "bb @1");
        edge.allowed(Check.with("aaaaa"), "s/aa/b/2", "aaba @1");
        edge.allowed(Check.with("aaaaa"), "s/aa/b/3", "aaaaa @1");
        edge.allowed(Check.with("abab"), "s/^a/x/g", "xbab @1");
        edge.allowed(Check.with("abab"), "s/b$/x/g", "abax @1");
        edge.sentence("2: but the match at that end itself does not count, if it has no characters");
        edge.allowed(Check.with("abc"), "s/*/x/g", "x @1");
        edge.allowed(Check.with("abc"), "s/*/x/2", "abc @1");
        edge.allowed(Check.with("ab"), "s/()/x/g", "xaxbx @1");
        edge.allowed(Check.with("ab"), "s/()/x/3", "abx @1");
        edge.allowed(Check.with("ab"), "s/()/x/4", "ab @1");
        edge.allowed(Check.with(""), "s/()/x/g", "x @1");
        edge.allowed(Check.with(""), "s/()/x/2", " @1");
        edge.allowed(Check.with("ab"), "s/$/x/g", "abx @1");
        edge.allowed(Check.with("ab"), "s/^/x/g", "xab @1");
        edge.allowed(Check.with("aab"), "s/(*)\\1/x/g", "xbx @1");
        edge.allowed(Check.with(Edge.ROW30), "s/()/&/g", Edge.ROW30 + " @1");
    }

    private void numbers() {
        edge.sentence("3: a number is a digit, and perhaps a second one");
        for (String act : new String[] {"v", ">", "<", "o", "O"}) {
            edge.sound(act + "0", act + "9", act + "00", act + "99", act + "7;p");
            edge.faulty(act + "!", act + "!;p", act + "!a", act + "10!0", act + "99!9", act + "!-1", act + "1!a");
        }
        edge.sound("0a", "00a", "9p", "99p", "1,99p", "99,1p", "m99", "t0", "1+99p", "1-99p", "1+0-0+9-99p", "$-99,.+99p");
        edge.faulty("10!0p", "99!9p", "1,10!0p", "m10!0", "t99!9", "1+10!0p", "$-99!9p", "1+1-10!0p");
        edge.faulty("1+!", "1-!", "1+!+1p", "1+!p", ".-!.p", "$+!$p", "m1+!", "t$-!;");
        edge.faulty("v!/", "v1!/", "o1!/", "m1!/", "1!/a/p", "1,2!/", "1+1!/", "v1!:", "1!:A");
        edge.sentence("3: a spot has ahead of + and - a number, a point, $, a mark or a pattern");
        edge.faulty("!+1p", "!-1p", "1,!+1p", "m!+1", "1+1!.p", ".!$p", "$!1p", "'a!'bp", "/a/!/b/p", "1!'ap", "p!1");
        edge.sentence("3: where is %, or an address, or two");
        edge.sound("%p", "1p", "1,2p", "p");
        edge.faulty("%!%p", "%!1p", "%!,1p", "1!%p", "1,!%p", "1,2!,3p", "!,1p", "1,!,p", "1,!p", "%!", "1!", "1,2!");
    }

    private void marksFilesLabels() {
        edge.sentence("3: a mark is a to e");
        for (char mark = 'a'; mark <= 'e'; mark++) {
            edge.sound("'" + mark + "p", "k" + mark, "m'" + mark, "1,'" + mark + "p");
        }
        edge.faulty("m'!", "t'!", "m/a!", "t?a!", "m/!", "1,'!", "/a!", "1,?a!");
        edge.faulty("'!fp", "'!`p", "'!Ap", "'!0p", "'! p", "'!", "k!f", "k!`", "k!A", "k!1", "k!", "ka!b", "m'!f", "k!;p");
        edge.sentence("3: a file is 0 to 3");
        for (char file = '0'; file <= '3'; file++) {
            edge.sound("r" + file, "w" + file, "%w" + file, "0r" + file);
        }
        edge.faulty("r!4", "r!/", "r!a", "r!", "r0!0", "w!4", "w!/", "w!9", "w!", "w3!3", "w!;", "r!;");
        edge.sentence("3: a label is A to Z, and b and T may be without one");
        edge.sound(":A", ":Z", "bA", "bZ", "TA", "TZ", "b", "T", "b;T", "T;b", ":M;bM;TM");
        edge.faulty(":!@", ":![", ":!a", ":!1", ":!", ":!;p", ":A!A", "b!@", "b![", "b!a", "bA!A", "T!@", "T![", "T!a", "TZ!Z");
    }

    private void rows() {
        edge.sentence("3: the row behind a, i, c and | is all characters that stand there, perhaps none; a 31st is a fault");
        for (String act : new String[] {"a", "i", "c"}) {
            edge.sound(act, act + "|", act + "||", act + Edge.ROW30, act + "|" + Edge.ROW30, act + ";p", act + "x|;p");
            edge.faulty(act + Edge.ROW30 + "!0", act + "|" + Edge.ROW30 + "! ", act + "x|" + Edge.ROW30 + "!0",
                act + Edge.ROW30 + "!/");
            edge.sound(act + Edge.ROW30 + "|" + Edge.ROW30.substring(3), act + Edge.ROW30 + ";p");
        }
        Subject x = new Subject();
        edge.allowed(x, "a p  |;=", " p  | @2");
        edge.allowed(x, "%c" + Edge.ROW30, Edge.ROW30 + " @1");
        edge.allowed(x, "ip;d;{a;d}");
        Subject long60 = new Subject();
        edge.allowed(long60, "a" + Edge.ROW30.substring(2) + "|" + Edge.ROW30);
        check.same("60 signs", 60, long60.wipe());
        check.same("the last row of a tape of 60 signs", Edge.ROW30.substring(2) + "|" + Edge.ROW30, Check.text(long60));
        edge.sentence("3: those of z and of a put may have more than 30");
        edge.sound("z/" + Edge.ROW30.substring(2) + "/" + Edge.ROW30.substring(2) + "/");
        edge.sound("s/a/" + Edge.ROW30 + "0/", "s/a/" + "b".repeat(55) + "/", "s/a/" + "b".repeat(31) + "&/g");
    }

    private void digitsOfReplacing() {
        edge.sentence("3: the digit of s is 1 to 9");
        for (char digit = '1'; digit <= '9'; digit++) {
            edge.sound("s/a/b/" + digit);
            edge.faulty("s/a/b/" + digit + "!0", "s/a/b/" + digit + "!g");
        }
        edge.sound("s/a/b/", "s/a/b/g");
        edge.faulty("s/a/b/!0", "s/a/b/!:", "s/a/b/!/", "s/a/b/!G", "s/a/b/g!g", "s/a/b/g!1", "s/a/b/!a");
        edge.sentence("3: the digit in a put is 1 or 2, and tells a group of its pattern");
        edge.sound("s/(a)/\\1/", "s/(a)(b)/\\1\\2/", "s/(a)(b)/x\\2&\\1y/g", "s/()/\\1\\1/9");
        edge.faulty("s/a/!\\1/", "s/a/x!\\1/", "s/(a)/\\!2/", "s/(a)/\\!0/", "s/(a)(b)/\\!3/", "s/(a)(b)/\\!0/", "s/(a)/\\!/");
        edge.faulty("s/(a)/\\!", "s/(a)(b)/\\1\\!", "g!", "G!", "g!d", "g/!", "G/a!", "g/a/!", "g/a!D", "g/(!", "G/a!;");
        edge.faulty("s/(a)/\\!\\/", "s/(a)/\\!&/", "s/(a)/\\1\\!2/", "s/(a)/b/;s/c/!\\1/", "/(a)/s/c/!\\1/", "s/(a)(b)/c/;s/(c)/\\!2/");
        edge.faulty("s/a!", "s/a/!", "s/a/b!", "s!", "s!;", "s/!", "s/(a!/b/", "s/a/!;p", "s/a/!|/", "s/a/!./");
    }

    private void turning() {
        edge.sentence("3: the rows of z have a character each at least, and both are as long as each other");
        edge.sound("z/a/b/", "z/ab/cd/", "z/ / /", "z/aa/bc/");
        edge.faulty("z/!/", "z/!//", "z/a/!/", "z/ab/c!/", "z/a/b!c/", "z/ab/cd!e/", "z/abc/!/", "z/a/b/!g", "z/a/b/!1");
        edge.faulty("z!", "z/!", "z/a!", "z/a/!", "z/a/b!", "z!a", "z/a!;", "z/a/!;", "z/a/b!;", "z/a!*/");
        String most = Edge.ROW30.substring(2);
        edge.faulty("z/" + most + "/" + most.substring(1) + "!/", "z/" + most + "/" + most + "!0");
    }

    private void labelsWithoutWhere() {
        edge.sentence("3: an order : has no where");
        edge.sound(":A", "p;:A", ":A;:A");
        edge.faulty("1!:A", "%!:A", ".!:A", "$!:A", "'a!:A", "/a/!:A", "?a?!:A", "1,2!:A", "1+1!:A", "p;1!:A");
        edge.sound("1bA", "%TA", "1,2q", "$N", "/a/b", "'aT");
    }

    private void insideOfBlocks() {
        edge.sentence("3: in a block, and behind g/ / or G/ /, there are no g, G, blocks, :, b, T, q and N");
        for (String act : new String[] {"g/a/d", "G/a/d", "{d}", ":A", "bA", "b", "TA", "T", "q", "N"}) {
            for (String ahead : new String[] {"{", "1{", "{d;", "g/a/", "G/a/", "g/a/{", "G/a/{", "g/a/{d;", "%g/a/"}) {
                boolean block = ahead.endsWith("/") && act.startsWith("{");
                if (!block) {
                    edge.faulty(ahead + "!" + act);
                }
                if (!act.startsWith(":")) {
                    edge.faulty(ahead + "1!" + act, ahead + "%!" + act, ahead + "1,2!" + act);
                }
            }
        }
        edge.sound("g/a/{d}", "G/a/{d;p}", "g/a/d", "g/a/1d", "g/a/1,2d", "1{%d;1,$p;/a/p}", "{a;i;c;d;j;l;p;=;n;h;H;u;e}");
        edge.sound("{v1;>1;<1;o1;O1;m1;t1;ka;r0;w0;s/a/b/;z/a/b/}", "g/a/{p};g/b/p;{p};q", "{p};N;{p}", "g/a/p;:A;bA");
    }

    private void lengthsOfBlocks() {
        edge.sentence("3: a block has an order at least, and } behind the last one");
        edge.faulty("{!", "{!}", "{p!", "{p;!", "{p;!}", "{!;p}", "g/a/{!", "g/a/{!}", "g/a/{p!", "{p}!}", "g/a/p!}", "!}", "p!}");
        edge.faulty("{p}!p", "{p}!{p}", "{p!p}", "{ab!B}", "{a!/}");
        edge.sentence("3: orders are one at least, parted by ;");
        edge.faulty("!", "!;", "p;!", "p;!;p", "!;p", "p! ;p", "p;! p", "p!p", "p!,p", "g/a/!;p", "g/a/!");
    }

    private void whateverLength() {
        edge.sentence("3: the fault is told whatever length a tape could have; its length, if it is no orders as it is");
        String[] unended = {"s/a/" + "b".repeat(56), "z/" + "c".repeat(58), "{p" + ";p".repeat(29), "g/[" + "a".repeat(57),
            "?[^" + "a".repeat(57), "p" + ";p".repeat(29) + ";", "s/[" + "x".repeat(57), "1" + "+1".repeat(29) + "+"};
        for (String tape : unended) {
            check.same("signs of " + tape, 60, tape.length());
            edge.faulty(tape + "!");
        }
        check.same("a pattern of 60 signs that does not end", 60, Check.patternFault("[" + "a".repeat(59)));
        check.same("one that ends", -1, Check.patternFault("[" + "a".repeat(58) + "]"));
        edge.sound("p" + ";p".repeat(29), "{p" + ";p".repeat(28) + "}", "1" + "+1".repeat(29) + "p");
        edge.sound("a" + "|".repeat(59), "s/[" + "x".repeat(54) + "]//", ("g/a/{" + "p;".repeat(30)).substring(0, 58) + "}");
        edge.sentence("3: likewise a tape is taken as a pattern");
        edge.unfit("[!", "[^!", "[a!", "(!", "(a!", "(a)\\!", "!", "[ab!A]", "(ab!;", "a!;");
    }

    private void onTapeAfterTheOther() {
        edge.sentence("promises 3 to 5: what stood on a tape ahead of wipe() counts no more");
        String[] tapes = {"1,2p", "1", "p;p", "p", "p;", "{p}", "{p", "'f", ".p", "m'", "m.", "/[a", "$p", "s/a/b/g", "s/a/b/", "s/a/b", "s/a",
            "g/a/{p}", "g/a/p", "a|b|c", "a|b", "a", "k", "kb", "v12", "v1", "v", "1+12p", "1+1", "1+", "TA", "T", "/(a)\\1/p", "/(a)\\", "/(a",
            ":A", ":", "z/ab/cd/", "z/ab/c", "z/ab/", "z/a"};
        int[] due = {-1, 1, -1, -1, 2, -1, 2, 1, -1, 2, -1, 3, -1, -1, -1, 5, 3,
            -1, -1, -1, -1, -1, 1, -1, -1, -1, 1, -1, 3, 2, -1, -1, -1, 5, 3,
            -1, 1, -1, 6, 5, 3};
        check.same("as many tapes as faults", due.length, tapes.length);
        Subject x = new Subject();
        for (int i = 0; i < tapes.length; i++) {
            Check.type(x, tapes[i]);
            check.same("fault of " + tapes[i] + " behind other tapes", due[i], x.fault());
        }
    }

    private void prefixes() {
        edge.sentence("3: the fault of what can go on is its length, or NONE");
        String[] whole = {"'a+12,?^[^ab](c*)\\1.$?-3s/(a)(*)b\\2/x&\\1\\2/g", "%G/^(a)/{1,2z/ab/ba/;.ka;$-1w3;'bt/x/+2;v12}",
            "aab|c |;/x/,$c|9;N;TA;:A;bB;:B;1q;g/a/m0;%>99;O10", "G/[^09]/d;1,2{h;H;u;e;=;n;j;l}"};
        for (String tape : whole) {
            for (int length = 0; length <= tape.length(); length++) {
                int fault = Check.fault(tape.substring(0, length));
                check.holds(tape.substring(0, length), fault == -1 || fault == length);
            }
            check.same(tape, -1, Check.fault(tape));
            for (int place = 0; place < tape.length(); place++) {
                String cut = tape.substring(0, place);
                int fault = Check.fault(cut + "~" + tape.substring(place));
                check.same("a sign that never stands there: " + cut + "~", place, fault);
            }
        }
    }
}
