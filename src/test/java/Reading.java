import java.util.ArrayList;
import java.util.List;

/** Reads tapes for the model: as orders or as a pattern, by the grammar of the document, rule by rule. */
final class Reading {
    /** The place of the first sign with which nothing goes on. */
    static final class Fault extends RuntimeException {
        private static final long serialVersionUID = 1;
        final int place;

        Fault(int place) {
            this.place = place;
        }
    }

    static final class Address {
        char kind;
        int number;
        Pattern pattern;
        int shift;
        boolean shifted;
    }

    static final class Order {
        int where;
        Address first;
        Address second;
        Address target;
        char act;
        int number;
        char label;
        List<String> rows;
        Pattern pattern;
        String put;
        int find;
        String turnFrom;
        String turnTo;
        List<Order> inner;

        boolean running;
        boolean held;
        boolean over;
        int serial;
    }

    static final class Match {
        int place;
        int end;
        String[] groups = new String[2];
    }

    /** A character, a choice of characters, a star, a group or a group once more. */
    static final class Item {
        char kind;
        String among;
        boolean others;
        List<Item> inner;
        int group;
    }

    static final class Pattern {
        boolean head;
        boolean tail;
        List<Item> items = new ArrayList<>();
        int groups;
        int stars;

        /** The match at a place: all lengths of the stars are tried, the longest of the first one first. */
        Match at(String row, int place) {
            if (head && place != 0) {
                return null;
            }
            int most = row.length() - place;
            for (int one = stars > 0 ? most : 0; one >= 0; one--) {
                for (int two = stars > 1 ? most - one : 0; two >= 0; two--) {
                    Match m = new Match();
                    m.place = place;
                    int[] lengths = {one, two};
                    m.end = fit(items, row, place, lengths, new int[1], m);
                    if (m.end >= 0 && (!tail || m.end == row.length())) {
                        return m;
                    }
                }
            }
            return null;
        }

        private int fit(List<Item> list, String row, int from, int[] lengths, int[] star, Match m) {
            int at = from;
            for (Item item : list) {
                switch (item.kind) {
                    case 'c':
                        if (at >= row.length() || item.among.indexOf(row.charAt(at)) >= 0 == item.others) {
                            return -1;
                        }
                        at++;
                        break;
                    case '*':
                        at += lengths[star[0]++];
                        if (at > row.length()) {
                            return -1;
                        }
                        break;
                    case '(':
                        int end = fit(item.inner, row, at, lengths, star, m);
                        if (end < 0) {
                            return -1;
                        }
                        m.groups[item.group] = row.substring(at, end);
                        at = end;
                        break;
                    default:
                        if (!row.startsWith(m.groups[item.group], at)) {
                            return -1;
                        }
                        at += m.groups[item.group].length();
                }
            }
            return at;
        }

        Match find(String row) {
            for (int place = 0; place <= row.length(); place++) {
                Match m = at(row, place);
                if (m != null) {
                    return m;
                }
            }
            return null;
        }

        List<Match> finds(String row) {
            List<Match> finds = new ArrayList<>();
            Match m = find(row);
            while (m != null) {
                finds.add(m);
                int from = m.end;
                m = null;
                for (int place = from; place <= row.length() && m == null; place++) {
                    m = at(row, place);
                    if (m != null && place == from && m.end == from) {
                        m = null;
                    }
                }
            }
            return finds;
        }
    }

    private final String tape;
    private int at;

    private Reading(String tape) {
        this.tape = tape;
    }

    static List<Order> orders(String tape) {
        Reading r = new Reading(tape);
        List<Order> orders = new ArrayList<>();
        do {
            orders.add(r.order(false));
        } while (r.maybe(";"));
        if (r.at < tape.length()) {
            throw new Fault(r.at);
        }
        return orders;
    }

    static Pattern pattern(String tape) {
        Reading r = new Reading(tape);
        Pattern p = r.pattern();
        if (r.at < tape.length()) {
            throw new Fault(r.at);
        }
        return p;
    }

    static int faultOfOrders(String tape) {
        try {
            orders(tape);
            return -1;
        } catch (Fault e) {
            return e.place;
        }
    }

    static int faultOfPattern(String tape) {
        try {
            pattern(tape);
            return -1;
        } catch (Fault e) {
            return e.place;
        }
    }

    private boolean sees(String signs) {
        return at < tape.length() && signs.indexOf(tape.charAt(at)) >= 0;
    }

    private boolean maybe(String signs) {
        if (sees(signs)) {
            at++;
            return true;
        }
        return false;
    }

    private char must(String signs) {
        if (!sees(signs)) {
            throw new Fault(at);
        }
        return tape.charAt(at++);
    }

    private static final String DIGITS = "0123456789";
    private static final String CHARACTERS = "abcdefghijklmnopqrstuvwxyz0123456789 ";
    private static final String LABELS = "ABCDEFGHIJKLMNOPQRSTUVWXYZ";

    private int number() {
        int n = must(DIGITS) - '0';
        return sees(DIGITS) ? n * 10 + must(DIGITS) - '0' : n;
    }

    private Order order(boolean inside) {
        Order o = new Order();
        if (maybe("%")) {
            o.where = 1;
        } else if (sees(DIGITS + ".$'/?")) {
            o.where = 2;
            o.first = address();
            if (maybe(",")) {
                o.where = 3;
                o.second = address();
            }
        }
        String acts = "aicdjlp=nhHuev><oOmtkrwsz";
        if (!inside) {
            acts += "gG{bTqN" + (o.where == 0 ? ":" : "");
        }
        o.act = must(acts);
        if ("aic".indexOf(o.act) >= 0) {
            o.rows = new ArrayList<>();
            do {
                StringBuilder row = new StringBuilder();
                while (row.length() < 30 && sees(CHARACTERS)) {
                    row.append(must(CHARACTERS));
                }
                o.rows.add(row.toString());
            } while (maybe("|"));
        } else if ("v><oO".indexOf(o.act) >= 0) {
            o.number = number();
        } else if ("mt".indexOf(o.act) >= 0) {
            o.target = address();
        } else if (o.act == 'k') {
            o.number = must("abcde") - 'a';
        } else if ("rw".indexOf(o.act) >= 0) {
            o.number = must("0123") - '0';
        } else if (o.act == ':') {
            o.label = must(LABELS);
        } else if ("bT".indexOf(o.act) >= 0) {
            o.label = sees(LABELS) ? must(LABELS) : 0;
        } else if (o.act == 's') {
            replacing(o);
        } else if (o.act == 'z') {
            turning(o);
        } else if ("gG".indexOf(o.act) >= 0) {
            must("/");
            o.pattern = pattern();
            must("/");
            o.inner = new ArrayList<>();
            if (maybe("{")) {
                block(o.inner);
            } else {
                o.inner.add(order(true));
            }
        } else if (o.act == '{') {
            o.inner = new ArrayList<>();
            block(o.inner);
        }
        return o;
    }

    private void block(List<Order> inner) {
        do {
            inner.add(order(true));
        } while (maybe(";"));
        must("}");
    }

    private void replacing(Order o) {
        must("/");
        o.pattern = pattern();
        must("/");
        String groups = "12".substring(0, o.pattern.groups);
        StringBuilder put = new StringBuilder();
        while (!sees("/")) {
            char c = must(CHARACTERS + "&" + (groups.isEmpty() ? "" : "\\"));
            put.append(c);
            if (c == '\\') {
                put.append(must(groups));
            }
        }
        must("/");
        o.put = put.toString();
        o.find = sees("123456789") ? number1() : maybe("g") ? 0 : 1;
    }

    private int number1() {
        return must("123456789") - '0';
    }

    private void turning(Order o) {
        must("/");
        StringBuilder from = new StringBuilder();
        do {
            from.append(must(CHARACTERS));
        } while (!sees("/") && at < tape.length());
        must("/");
        StringBuilder to = new StringBuilder();
        while (to.length() < from.length()) {
            to.append(must(CHARACTERS));
        }
        must("/");
        o.turnFrom = from.toString();
        o.turnTo = to.toString();
    }

    private Address address() {
        Address a = new Address();
        if (sees(DIGITS)) {
            a.kind = '0';
            a.number = number();
        } else {
            a.kind = must(".$'/?");
            if (a.kind == '\'') {
                a.number = must("abcde") - 'a';
            } else if (a.kind == '/' || a.kind == '?') {
                a.pattern = pattern();
                must("" + a.kind);
            }
        }
        while (sees("+-")) {
            a.shift += must("+-") == '+' ? number() : -number();
            a.shifted = true;
        }
        return a;
    }

    private Pattern pattern() {
        Pattern p = new Pattern();
        int began = at;
        p.head = maybe("^");
        while (p.items.size() < 12) {
            Item item = plain(p);
            if (item == null && p.groups < 2 && maybe("(")) {
                item = group(p);
            } else if (item == null && p.groups > 0 && maybe("\\")) {
                item = new Item();
                item.kind = '\\';
                item.group = must("12".substring(0, p.groups)) - '1';
            }
            if (item == null) {
                break;
            }
            p.items.add(item);
        }
        p.tail = maybe("$");
        if (at == began) {
            throw new Fault(at);
        }
        return p;
    }

    private Item group(Pattern p) {
        Item item = new Item();
        item.kind = '(';
        item.inner = new ArrayList<>();
        while (item.inner.size() < 12) {
            Item inner = plain(p);
            if (inner == null) {
                break;
            }
            item.inner.add(inner);
        }
        must(")");
        item.group = p.groups++;
        return item;
    }

    private Item plain(Pattern p) {
        Item item = new Item();
        item.kind = 'c';
        item.among = "";
        if (sees(CHARACTERS)) {
            item.among += must(CHARACTERS);
        } else if (maybe(".")) {
            item.others = true;
        } else if (maybe("[")) {
            item.others = maybe("^");
            do {
                item.among += must(CHARACTERS);
            } while (!sees("]") && at < tape.length());
            must("]");
        } else if (p.stars < 2 && maybe("*")) {
            p.stars++;
            item.kind = '*';
        } else {
            return null;
        }
        return item;
    }
}
