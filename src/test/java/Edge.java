/** What the tests of the document's boundaries share: what is just allowed, what is just refused, what stays then. */
final class Edge {
    static final Class<IllegalArgumentException> IAE = IllegalArgumentException.class;
    static final Class<IllegalStateException> ISE = IllegalStateException.class;
    static final Class<IndexOutOfBoundsException> IOOBE = IndexOutOfBoundsException.class;

    /** Numbers that no line, row, place, mark, file or script of the tests has. */
    static final int[] NEVER = {Integer.MIN_VALUE, -1000, -2, -1, 101, 65536, Integer.MAX_VALUE};

    static final String ROW30 = "012345678901234567890123456789";

    final Check check = new Check();

    /** The sentence that the next checks hold to. */
    void sentence(String words) {
        check.topic(words);
    }

    /** All that can be asked, but for the tape and the reason. */
    static String all(Subject x) {
        StringBuilder all = new StringBuilder();
        all.append("text ").append(x.lines()).append(' ').append(Check.text(x)).append(" ids ").append(Check.ids(x));
        all.append(" present ").append(x.present()).append(" marks ").append(Check.marks(x));
        all.append(" held ").append(x.held()).append(' ').append(Check.held(x));
        all.append(" out ").append(x.outs()).append(' ').append(Check.out(x));
        for (int file = 0; file < 4; file++) {
            all.append(" file ").append(x.fileRows(file)).append(' ').append(Check.file(x, file));
        }
        for (int script = 0; script < 4; script++) {
            all.append(" script ").append(x.scriptLength(script)).append(' ');
            for (int place = 0; place < x.scriptLength(script); place++) {
                all.append((char) x.scriptAt(script, place));
            }
        }
        return all.append(" deeds ").append(x.deeds()).append(" sound ").append(x.isSound()).toString();
    }

    /** The text, and the present line behind it. */
    static String state(Subject x) {
        return Check.text(x) + " @" + x.present();
    }

    /** A text of lines without characters. */
    static Subject empties(int many) {
        Subject x = new Subject();
        if (many > 0) {
            Check.run(x, "a" + "|".repeat(many - 1));
        }
        return x;
    }

    /** A text of these lines, parted by bars, and with this present line. */
    static Subject text(String lines, int present) {
        Subject x = Check.with(lines.split("\\|", -1));
        Check.run(x, present + ">0");
        return x;
    }

    /** None of the orders is refused. */
    void allowed(Subject x, String orders) {
        Check.run(x, orders);
        check.same(orders + " is not refused", 0, x.reason());
        check.holds(orders + ": all is sound", x.isSound());
    }

    void allowed(Subject x, String orders, String due) {
        allowed(x, orders);
        check.same(orders, due, state(x));
    }

    /** The first one of the orders is refused, for this reason, and all stays. */
    void refused(Subject x, String orders, int why) {
        String ahead = all(x);
        check.same(orders + ": how many were not refused", 0, Check.run(x, orders));
        check.same(orders + ": the reason", why, x.reason());
        check.same(orders + ": all stays", ahead, all(x));
    }

    void allowedByLine(Subject x, String orders) {
        check.holds(orders + " line by line", Check.stream(x, orders) >= 0);
        check.same(orders + " line by line is not refused", 0, x.reason());
        check.holds(orders + " line by line: all is sound", x.isSound());
    }

    void allowedByLine(Subject x, String orders, String due) {
        allowedByLine(x, orders);
        check.same(orders + " line by line", due, state(x));
    }

    void refusedByLine(Subject x, String orders, int why) {
        Check.keep(x, 3, orders);
        String ahead = all(x);
        check.same(orders + " line by line", Lineorders.NONE, x.stream(3));
        check.same(orders + " line by line: the reason", why, x.reason());
        check.same(orders + " line by line: all stays", ahead, all(x));
    }

    /**
     * Each order (with the text a, b, c, of which a is marked and b present, a row held, rows in all files and in the
     * out) changes the parts that stand behind its equals sign, and no others: text, now, marks, held, out, files 0 to 3.
     */
    void changesOnly(boolean byLine, String... told) {
        String[] names = {"text", "now", "marks", "held", "out", "0", "1", "2", "3"};
        for (String one : told) {
            int split = one.lastIndexOf(" = ");
            String order = one.substring(0, split);
            String changed = one.substring(split + 2) + " ";
            Subject x = text("a|b|c", 2);
            Check.run(x, "1ka;3h;1w0;2w1;3w2;w3;1p;2>0");
            String[] ahead = parts(x);
            if (byLine) {
                allowedByLine(x, order);
            } else {
                allowed(x, order);
            }
            String[] behind = parts(x);
            for (int part = 0; part < names.length; part++) {
                boolean same = ahead[part].equals(behind[part]);
                boolean due = !changed.contains(" " + names[part] + " ");
                check.same(order + " leaves " + names[part] + ", by line " + byLine, due ? 1 : 0, same ? 1 : 0);
            }
        }
    }

    private static String[] parts(Subject x) {
        StringBuilder marks = new StringBuilder();
        for (int mark = 0; mark < 5; mark++) {
            marks.append(' ').append(x.mark(mark) < 0 ? -1 : x.id(x.mark(mark)));
        }
        return new String[] {x.lines() + " " + Check.text(x) + " " + Check.ids(x), "" + x.present(), marks.toString(),
            Check.held(x) + " " + x.held(), Check.out(x) + " " + x.outs(), Check.file(x, 0) + " " + x.fileRows(0),
            Check.file(x, 1) + " " + x.fileRows(1), Check.file(x, 2) + " " + x.fileRows(2),
            Check.file(x, 3) + " " + x.fileRows(3)};
    }

    /** The next line that is made gets this id; the deed of it is undone. */
    void nextId(Subject x, int due) {
        Check.run(x, "0a");
        check.same("the id that is given next", due, x.id(1));
        x.undo();
    }

    /** The call throws this exception, and all stays. */
    void throwing(Subject x, String what, Class<? extends RuntimeException> due, Check.Call call) {
        String ahead = all(x);
        int reason = x.reason();
        check.throwing(what, due, call);
        check.same(what + ": all stays", ahead, all(x));
        check.same(what + ": the reason stays", reason, x.reason());
    }

    /** Tapes without a fault as orders. */
    void sound(String... tapes) {
        for (String tape : tapes) {
            check.same("fault of " + tape, Lineorders.NONE, Check.fault(tape));
        }
    }

    /** Tapes with a fault as orders, which stands at the sign behind the ! (or is the length, with the ! at the end). */
    void faulty(String... tapes) {
        for (String tape : tapes) {
            int place = tape.indexOf('!');
            String signs = tape.substring(0, place) + tape.substring(place + 1);
            check.same("fault of " + signs, place, Check.fault(signs));
        }
    }

    void fitting(String... patterns) {
        for (String pattern : patterns) {
            check.same("patternFault of " + pattern, Lineorders.NONE, Check.patternFault(pattern));
        }
    }

    void unfit(String... tapes) {
        for (String tape : tapes) {
            int place = tape.indexOf('!');
            String signs = tape.substring(0, place) + tape.substring(place + 1);
            check.same("patternFault of " + signs, place, Check.patternFault(signs));
        }
    }

    /** Where the find of a pattern in a row is. */
    void finds(String pattern, String row, int start, int end) {
        Subject x = Check.with(row);
        Check.type(x, pattern);
        check.same("findStart of " + pattern + " in [" + row + "]", start, x.findStart(1));
        check.same("findEnd of " + pattern + " in [" + row + "]", end, x.findEnd(1));
    }
}
