/** Promises 4 and 5: the faults of tapes, as orders and as patterns; and what patterns match (parts 2 and 3). */
public final class FaultTest {
    private final Check check = new Check();

    public static void main(String[] args) {
        FaultTest test = new FaultTest();
        test.soundOrders();
        test.faultyOrders();
        test.limits();
        test.patterns();
        test.matches();
        test.choiceOfMatches();
        System.exit(test.check.close());
    }

    private void sound(String... tapes) {
        for (String tape : tapes) {
            check.same("fault of " + tape, -1, Check.fault(tape));
        }
    }

    /** The fault of each tape stands at the sign behind the bar that is told by !. */
    private void faulty(String... tapes) {
        for (String tape : tapes) {
            int place = tape.indexOf('!');
            String signs = tape.substring(0, place) + tape.substring(place + 1);
            check.same("fault of " + signs, place, Check.fault(signs));
        }
    }

    private void soundOrders() {
        check.topic("promise 4");
        sound("a", "i", "c", "a|", "a||", "aab c|012|", "d", "j", "l", "p", "=", "n", "h", "H", "u", "e", "q", "N");
        sound("v0", "v12", ">1", "<99", "o0", "O30", "m0", "m$", "t.", "t'a+1", "m/a/-2", "t?a?", "ka", "ke");
        sound("r0", "r3", "w0", "w3", ":A", ":Z", "b", "bA", "T", "TZ", "s/a//", "s/a/b/g", "s/a/b/1", "s/a/b/9");
        sound("s/(a)/\\1&/", "s/(a)(b)/\\2\\1/g", "z/a/b/", "z/ab /12a/", "g/a/d", "G/a/d", "g/a/{d}");
        sound("G/^$/{d;p}", "{d}", "{d;p;1,2s/a/b/}", "1{d}", "1,2{d}", "%{d}", "%g/a/d", "1,$g/a/1,$d", "d;d;d");
        sound("1d", "12d", ".d", "$d", "'ad", "/a/d", "?a?d", "1,2d", "1+1d", "1-1+12-3d", ".+1,$-1d", "/a/,?b?d");
        sound("'a,'bd", "%q", "1,2N", "/a/b", "$bA", "1T", ".TA", "a;:A;bA", "g/a/i|b", "g/a/s/b/c/g;d", "%d");
        sound("g/a/a;p", "g/a/{a};p", "{ab|c;d}", "00d", "07d", "0a", "ab", "a a", "g/a/{i;d};{p;=};q");
    }

    private void faultyOrders() {
        check.topic("promise 4");
        faulty("!", "!x", "!;", "d;!;", "d;!", "!A", "!&", "!~", "!|", "!}", "d!}", "d!d", "d! ", "! d", "!(", "!*");
        faulty("p!1", "=!=", "u!1", "q!1", "N!N", "%!", "%!%d", "%!,", "%!1d", "1!", "1,!", "1,!,", "1,!d", "1,!%d");
        faulty("12!3", "1+!", "1+!d", "1+!$", "1+1!", "1+12!3", "1-!-1", ".!.", ".!1", "$!$", "'!", "'!f", "'!A", "'!1");
        faulty("1,2!,3d", "1,2!%", "1!'d", "/a/!", "/!/", "?!?", "/a!?", "?a!/", "/a!", "/!", "?a?!?", "/a/!/b/d");
        faulty("v!", "v!a", "v12!3", ">!", "<!x", "o!", "O!-", "m!", "m!d", "m!%", "m1!d", "m1!,2", "t!;", "t/!/", "m'!");
        faulty("k!", "k!f", "ka!b", "r!", "r!4", "r1!1", "w!", "w!a", ":!", ":!a", ":A!B", "1!:A", "%!:A", "1,2!:A");
        faulty("b!a", "bA!A", "T!1", "TA!x", "b!1", "T;T!x", "s!", "s!a", "s/!", "s/!/", "s/a!");
        faulty("s/a/!", "s/a/b!", "s/a/b/!0", "s/a/b/g!g", "s/a/b/1!1", "s/a/b/g!1", "s/a/!*/", "s/a/!.", "s/a!;");
        faulty("s/a/!\\1/", "s/(a)/\\!", "s/(a)/\\!2/", "s/(a)/\\!0/", "s/(a)(b)/\\!3/", "s/(a)/\\1\\!", "s/a/b!;");
        faulty("z!", "z!a", "z/!", "z/!/", "z/a!", "z/a/!", "z/a/!/", "z/ab/x!/", "z/a/x!y/", "z/a/b/!g", "z/a!&");
        faulty("z/a/!&", "z/ab/xy!", "z/ab/xy!z", "z/a!.", "g!", "g!d", "g/!", "g/!/", "g/a!", "g/a/!");
        faulty("g/a/!;", "g/a/{!", "g/a/{!}", "g/a/{d!", "g/a/{d;!", "g/a/{d;!}", "g/a/{d}!d", "g/a/{d}!}", "g/a/d!}");
        faulty("g/a/!g/b/d", "g/a/!G/b/d", "g/a/1!{d}", "g/a/%!{d}", "g/a/!:A", "g/a/!bA", "g/a/!T", "g/a/!q", "g/a/!N");
        faulty("g/a/1!q", "g/a/{!{d}}", "g/a/{d;!g/a/d}", "G/a/{p;!N}", "{!", "{!}", "{d!", "{d!d}", "{d;!}", "{d;!;d}");
        faulty("{!g/a/d}", "{!{d}}", "{1!{d}}", "{!:A}", "{!b}", "{!T}", "{!q}", "{!N}", "{d}!d", "{d}!}", "{d;p!");
        faulty("a!B", "a!.", "aab|c!/", "a!,", "i!(", "c|!\\", "aab!{", "ab!}", "a||!-", "a!=");
    }

    private void limits() {
        check.topic("promise 4, lengths and counts");
        String row = "012345678901234567890123456789";
        sound("a" + row, "a|" + row, "i" + row, "c" + row);
        faulty("a" + row + "!x", "i|" + row + "!x", "c" + row + "!x", "aa|" + row.substring(1) + "x!x");
        sound("s/a/" + row + "xyz/", "z/" + row.substring(0, 27) + "/" + row.substring(0, 27) + "/");
        sound("s/a/" + row + row.substring(0, 20) + "/", "/aaaaaaaaaaaa/d", "/^aaaaaaaaaaaa$/d");
        faulty("/aaaaaaaaaaaa!a/d", "/aaaaaaaaaaaa!*/d", "/aaaaaaaaaaaa!(/d", "/aaaaaaaaaaaa![a]/d", "/(a)aaaaaaaaaaa!\\1/d");
        sound("/(aaaaaaaaaaaa)/d", "/(aaaaaaaaaaaa)(aaaaaaaaaaaa)aaaaaaaaaa/d", "/(aaaaaaaaaaaa)aaaaaaaaaaa/d");
        faulty("/(aaaaaaaaaaaa!a)/d", "/(aaaaaaaaaaaa![a])/d", "/(aaaaaaaaaaaa)aaaaaaaaaaa!a/d");
        sound("/**/d", "/*a*/d", "/(*)(*)/d", "/(**)/d");
        faulty("/**!*/d", "/(*)*!*/d", "/(*)(*!*)/d", "/(*)(*)!*/d", "/(a)(b)!(c)/d", "/()()!(/d");
    }

    private void fitting(String... patterns) {
        for (String pattern : patterns) {
            check.same("patternFault of " + pattern, -1, Check.patternFault(pattern));
        }
    }

    private void unfit(String... tapes) {
        for (String tape : tapes) {
            int place = tape.indexOf('!');
            String signs = tape.substring(0, place) + tape.substring(place + 1);
            check.same("patternFault of " + signs, place, Check.patternFault(signs));
        }
    }

    private void patterns() {
        check.topic("promise 5");
        fitting("a", " ", "9", ".", "*", "^", "$", "^$", "^a$", "[a]", "[^a]", "[ab 9]", "()", "(a)", "(.*[a])", "(a)\\1", "()()\\2\\1", "(a)b\\1$");
        unfit("!", "a!/", "!?", "!;", "!A", "!|", "a!^", "^!^", "$!$", "$!a", "a$!*", "[!", "[!]", "[^!", "[^!]", "[a!");
        unfit("[a!^]", "[a!.]", "[!*]", "[a][!", "!\\1", "a!\\", "(!", "(a!", "(!(a))", "(a!$)", "(!^a)", "(a!\\1)");
        unfit("(a)\\!", "(a)\\!2", "(a)\\!0", "(a)(b)\\!3", "()(!\\1)", "(a)(b)!(", "!)", "a!)", "(a)!)", "(a)$!\\1");
        unfit("aaaaaaaaaaaa!a", "(aaaaaaaaaaaa!.", "**!*", "*(*!*", "^!]", "a!]", "a!&", "aaaaaaaaaaaa$!a", "^!^a");
    }

    /** Where a pattern is found in a row, as place-end; -1 if it is not. */
    private String found(String pattern, String row) {
        Subject x = Check.with(row);
        Check.type(x, pattern);
        int place = x.findStart(1);
        return place < 0 ? "-1" + (x.findEnd(1) == -1 ? "" : "?") : place + "-" + x.findEnd(1);
    }

    private void finds(String pattern, String row, String due) {
        check.same(pattern + " in " + row, due, found(pattern, row));
    }

    private void matches() {
        check.topic("part 2");
        finds("a", "ba", "1-2");
        finds("a", "b", "-1");
        finds("a", "", "-1");
        finds("*", "", "0-0");
        finds("^$", "", "0-0");
        finds("^$", "a", "-1");
        finds("$", "ab", "2-2");
        finds("^", "ab", "0-0");
        finds("^b", "ab", "-1");
        finds("b$", "bab", "2-3");
        finds(".", "", "-1");
        finds("..", "abc", "0-2");
        finds(" .", "ab c", "2-4");
        finds("[bc]", "abc", "1-2");
        finds("[^a]", "aab", "2-3");
        finds("[^ab]", "abab", "-1");
        finds("[a9 ]$", "b9", "1-2");
        finds("[^a]", "", "-1");
        finds("(a)\\1", "abaa", "2-4");
        finds("(.)(.)\\2\\1", "xabba", "1-5");
        finds("(.)\\1", "abc", "-1");
        finds("()a\\1", "ba", "1-2");
        finds("0", "a0", "1-2");
        Subject x = Check.with("aaaa", "a", "aaaaaaaaaaaaaaaaaaaaaaaaaaaaaa");
        Check.type(x, "^(a)\\1");
        check.same("aa in aaaa", 0, x.findStart(1));
        check.same("aa in a, behind aaaa", -1, x.findStart(2));
        Check.type(x, "*(a)\\1\\1$");
        check.same("aaa at the end of 30 characters", 30, x.findEnd(3));
        Check.type(x, "**(a)\\1");
        check.same("a twice at the end", 30, x.findEnd(3));
    }

    private void choiceOfMatches() {
        check.topic("part 2, several matches");
        finds("a*", "baab", "1-4");
        finds("a*b", "xabab", "1-5");
        finds("*", "abc", "0-3");
        finds("*b*", "abcb", "0-4");
        finds("(*)(*)", "ab", "0-2");
        finds("(*)\\1", "abab", "0-4");
        finds("(*)\\1", "aba", "0-0");
        finds("^(*)\\1$", "aaaa", "0-4");
        finds("(a*)b\\1", "aacbaac", "0-7");
        finds("a*a", "aaa", "0-3");
        finds("a*c", "abab", "-1");
        Subject x = Check.with("abcabc");
        Check.run(x, "s/(*)b(*)/\\2x\\1/");
        check.same("the first star has the most", "cxabca", Check.text(x));
        Check.run(x, "%ca a a;s/(*) (*)/b\\1db\\2d/");
        check.same("the second one has the rest", "ba adbad", Check.text(x));
    }
}
