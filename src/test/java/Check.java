/** Counts checks, tells those that fail, and types orders onto tapes. */
final class Check {
    private int passed;
    private int failed;
    private String topic = "";

    /** What a call answers or throws. */
    interface Call {
        long answer();
    }

    void topic(String name) {
        topic = name;
    }

    void same(String what, long due, long got) {
        if (due == got) {
            passed++;
            return;
        }
        failed++;
        System.out.println("FAILED " + topic + ": " + what + " answered " + got + ", due is " + due);
    }

    void same(String what, String due, String got) {
        if (due.equals(got)) {
            passed++;
            return;
        }
        failed++;
        System.out.println("FAILED " + topic + ": " + what + " answered [" + got + "], due is [" + due + "]");
    }

    void holds(String what, boolean is) {
        same(what, 1, is ? 1 : 0);
    }

    /** The call must throw exactly this exception. */
    void throwing(String what, Class<? extends RuntimeException> due, Call call) {
        String got = "nothing";
        try {
            call.answer();
        } catch (RuntimeException e) {
            got = e.getClass().getSimpleName();
        }
        same(what + " throws", due.getSimpleName(), got);
    }

    int close() {
        System.out.println(passed + " passed, " + failed + " failed");
        return failed == 0 ? 0 : 1;
    }

    /** Wipes the tape and types these signs. */
    static void type(Subject x, String signs) {
        x.wipe();
        for (int i = 0; i < signs.length(); i++) {
            x.type(signs.charAt(i));
        }
    }

    static int run(Subject x, String orders) {
        type(x, orders);
        return x.run();
    }

    static int keep(Subject x, int script, String orders) {
        type(x, orders);
        return x.keep(script);
    }

    static int stream(Subject x, String orders) {
        keep(x, 3, orders);
        return x.stream(3);
    }

    static int fault(String orders) {
        Subject x = new Subject();
        type(x, orders);
        return x.fault();
    }

    static int patternFault(String pattern) {
        Subject x = new Subject();
        type(x, pattern);
        return x.patternFault();
    }

    /** A new object with these lines; the last one is present. */
    static Subject with(String... lines) {
        Subject x = new Subject();
        for (String line : lines) {
            run(x, "$a" + line);
        }
        return x;
    }

    static String text(Subject x) {
        StringBuilder all = new StringBuilder();
        for (int line = 1; line <= x.lines(); line++) {
            all.append(line == 1 ? "" : "|");
            for (int place = 0; place < x.length(line); place++) {
                all.append((char) x.at(line, place));
            }
        }
        return all.toString();
    }

    static String ids(Subject x) {
        StringBuilder all = new StringBuilder();
        for (int line = 1; line <= x.lines(); line++) {
            all.append(line == 1 ? "" : " ").append(x.id(line));
        }
        return all.toString();
    }

    static String marks(Subject x) {
        StringBuilder all = new StringBuilder();
        for (int mark = 0; mark < 5; mark++) {
            all.append(mark == 0 ? "" : " ").append(x.mark(mark));
        }
        return all.toString();
    }

    static String held(Subject x) {
        StringBuilder all = new StringBuilder();
        for (int row = 1; row <= x.held(); row++) {
            all.append(row == 1 ? "" : "|");
            for (int place = 0; place < x.heldLength(row); place++) {
                all.append((char) x.heldAt(row, place));
            }
        }
        return all.toString();
    }

    static String out(Subject x) {
        StringBuilder all = new StringBuilder();
        for (int row = 1; row <= x.outs(); row++) {
            all.append(row == 1 ? "" : "|");
            for (int place = 0; place < x.outLength(row); place++) {
                all.append((char) x.outAt(row, place));
            }
        }
        return all.toString();
    }

    static String file(Subject x, int file) {
        StringBuilder all = new StringBuilder();
        for (int row = 1; row <= x.fileRows(file); row++) {
            all.append(row == 1 ? "" : "|");
            for (int place = 0; place < x.fileLength(file, row); place++) {
                all.append((char) x.fileAt(file, row, place));
            }
        }
        return all.toString();
    }
}
