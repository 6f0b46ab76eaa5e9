import java.math.BigDecimal;
import java.math.BigInteger;
import java.util.ArrayList;
import java.util.HashMap;
import java.util.HashSet;
import java.util.List;
import java.util.Map;
import java.util.Set;
import java.util.regex.Matcher;
import java.util.regex.Pattern;

/**
 * The document once more, in the plainest way: only the bytes of the journal are kept, and all that
 * the hub holds is read from them anew, from the beginning, whenever they have changed.
 */
final class Model {
    /** An element of a document. */
    private static final class Node {
        String letter;
        final List<Node> children = new ArrayList<>();
        final StringBuilder own = new StringBuilder();

        String value() {
            return own.toString().replaceAll("^ +| +$", "");
        }

        String letters() {
            StringBuilder all = new StringBuilder();
            for (Node child : children) {
                all.append(child.letter);
            }
            return all.toString();
        }

        String of(String name) {
            for (Node child : children) {
                if (child.letter.equals(name)) {
                    return child.value();
                }
            }
            throw new IllegalStateException(name);
        }
    }

    /** One transaction as the records tell it. */
    private static final class Transaction {
        String name;
        int status = 1;
        int amount;
        int debtor;
        int creditor;
        int deadline;
    }

    /** What follows from the records. */
    private static final class State {
        final Set<String> names = new HashSet<>();
        final List<Transaction> transactions = new ArrayList<>();
        final List<Integer> queue = new ArrayList<>();
        final List<int[]> reports = new ArrayList<>();
        final int[] reserved = new int[4];
        final List<List<Integer>> entries = List.of(new ArrayList<>(), new ArrayList<>(), new ArrayList<>(), new ArrayList<>());

        int find(String name) {
            for (int t = 0; t < transactions.size(); t++) {
                if (transactions.get(t).name.equals(name)) {
                    return t;
                }
            }
            return -1;
        }
    }

    private static final Pattern TOKEN = Pattern.compile("<!--(?<comment>(?:(?!--).)*)-->|&#(?<number>[0-9]{2,3});"
            + "|<(?<empty>[A-Za-z]) */>|<(?<begin>[A-Za-z]) *>|</(?<end>[A-Za-z]) *>|(?<character>[^<&])");

    private final int open;
    private final int limit;
    private final List<Integer> journal = new ArrayList<>();
    private final Map<Integer, Integer> copies = new HashMap<>();
    private String text = "";
    private int clock = 0;
    private boolean down = false;
    private int[] said = null;
    private State known = null;

    Model(int open, int limit) {
        this.open = open < 0 ? 0 : open > 1000000 ? 1000000 : open;
        this.limit = limit < 0 ? 0 : limit > 1000000 ? 1000000 : limit;
    }

    int put(long characters, int n) {
        if (down) {
            return -9;
        }
        if (n < 1 || n > 8 || text.length() + n > 300) {
            return -1;
        }
        StringBuilder more = new StringBuilder();
        BigInteger rest = BigInteger.valueOf(characters);
        for (int i = 0; i < n; i++) {
            int c = rest.mod(BigInteger.valueOf(256)).intValue();
            if (c < 32 || c > 126) {
                return -1;
            }
            more.append((char) c);
            rest = rest.shiftRight(8);
        }
        text += more;
        return text.length();
    }

    int submit() {
        if (down) {
            return -9;
        }
        String message = text;
        text = "";
        Node node = read(message);
        if (node == null) {
            return 1;
        }
        if (!valid(node)) {
            return 2;
        }
        int broken = broken(node, state());
        if (broken != 0) {
            return broken;
        }
        String form = form(node);
        int[] data = new int[form.length()];
        for (int i = 0; i < data.length; i++) {
            data[i] = form.charAt(i);
        }
        return write(77, data) ? 0 : -9;
    }

    int work() {
        if (down) {
            return -9;
        }
        State s = state();
        if (s.queue.isEmpty() || journal.size() >= 5000) {
            return -1;
        }
        int t = s.queue.get(0);
        Transaction x = s.transactions.get(t);
        if (x.amount <= available(s, x.debtor)) {
            int deadline = clock + 30;
            return write(72, t, deadline / 65536 % 256, deadline / 256 % 256, deadline % 256) ? t : -9;
        }
        return write(87, t) ? 100 + t : -9;
    }

    int tick(int n) {
        if (n >= 0 && n <= 1000) {
            clock += n;
        }
        State s = state();
        for (int t = 0; t < s.transactions.size(); t++) {
            Transaction x = s.transactions.get(t);
            if (!down && x.status == 3 && x.deadline <= clock) {
                write(88, t);
            }
        }
        return clock;
    }

    int send() {
        if (down) {
            return -9;
        }
        State s = state();
        for (int r = 0; r < s.reports.size(); r++) {
            if (s.reports.get(r)[2] == 0) {
                copies.merge(r, 1, Integer::sum);
                return write(83, r) ? r : -9;
            }
        }
        return -1;
    }

    boolean fail(int n, int bytes) {
        if (down || n < 0 || n > 50 || bytes < 0 || bytes > 300) {
            return false;
        }
        said = new int[] {n, bytes};
        return true;
    }

    boolean recover() {
        if (!down) {
            return false;
        }
        known = null;
        int whole = wholeBytes();
        while (journal.size() > whole) {
            journal.remove(journal.size() - 1);
        }
        down = false;
        text = "";
        return true;
    }

    int journal() {
        return journal.size();
    }

    int octet(int k) {
        return k >= 0 && k < journal.size() ? journal.get(k) : -1;
    }

    int transaction(int t, int what) {
        State s = state();
        if (down || t < 0 || t >= s.transactions.size() || what < 0 || what > 4) {
            return -1;
        }
        Transaction x = s.transactions.get(t);
        return new int[] {x.status, x.amount, x.debtor, x.creditor, x.deadline}[what];
    }

    int queue(int k) {
        State s = state();
        return down || k < 0 || k >= s.queue.size() ? -1 : s.queue.get(k);
    }

    int account(int a, int what) {
        if (down || a < 0 || a > 3 || what < 0 || what > 2) {
            return 0;
        }
        State s = state();
        return new int[] {balance(s, a), s.reserved[a], s.entries.get(a).size()}[what];
    }

    int entry(int a, int k) {
        State s = state();
        return down || a < 0 || a > 3 || k < 0 || k >= s.entries.get(a).size() ? 0 : s.entries.get(a).get(k);
    }

    int report(int r, int what) {
        State s = state();
        return down || r < 0 || r >= s.reports.size() || what < 0 || what > 2 ? -1 : s.reports.get(r)[what];
    }

    int copies(int r) {
        return copies.getOrDefault(r, 0);
    }

    private boolean write(int kind, int... data) {
        known = null;
        List<Integer> record = new ArrayList<>();
        record.add(kind);
        record.add(data.length);
        for (int d : data) {
            record.add(d);
        }
        int sum = 0;
        for (int b : record) {
            sum += b;
        }
        record.add(sum % 251);
        if (said != null && said[0]-- == 0) {
            journal.addAll(record.subList(0, Math.min(said[1], record.size() - 1)));
            said = null;
            down = true;
            return false;
        }
        journal.addAll(record);
        return true;
    }

    private int wholeBytes() {
        int at = 0;
        while (at + 1 < journal.size() && at + journal.get(at + 1) + 3 <= journal.size()) {
            at += journal.get(at + 1) + 3;
        }
        return at;
    }

    private int balance(State s, int a) {
        int balance = open;
        for (int e : s.entries.get(a)) {
            balance += e;
        }
        return balance;
    }

    private int available(State s, int a) {
        return balance(s, a) - s.reserved[a] + limit;
    }

    private State state() {
        if (known == null) {
            known = replay();
        }
        return known;
    }

    private State replay() {
        State s = new State();
        int whole = wholeBytes();
        for (int at = 0; at < whole; at += journal.get(at + 1) + 3) {
            redo(s, journal.get(at), journal.subList(at + 2, at + 2 + journal.get(at + 1)));
        }
        return s;
    }

    private void redo(State s, int kind, List<Integer> data) {
        int number = data.get(0);
        switch (kind) {
            case 77 -> {
                StringBuilder form = new StringBuilder();
                for (int d : data) {
                    form.append((char) d);
                }
                redoMessage(s, read(form.toString()));
            }
            case 72 -> {
                Transaction x = s.transactions.get(number);
                s.queue.remove(Integer.valueOf(number));
                x.status = 3;
                x.deadline = data.get(1) * 65536 + data.get(2) * 256 + data.get(3);
                s.reserved[x.debtor] += x.amount;
            }
            case 87 -> {
                s.queue.remove(Integer.valueOf(number));
                s.transactions.get(number).status = 2;
            }
            case 88 -> reject(s, number);
            case 83 -> s.reports.get(number)[2] = 1;
            default -> throw new IllegalStateException();
        }
    }

    private void redoMessage(State s, Node message) {
        s.names.add(message.of("I"));
        switch (message.letter) {
            case "P" -> {
                for (Node t : message.children.subList(3, message.children.size())) {
                    Transaction x = new Transaction();
                    x.name = t.of("E");
                    x.debtor = "ABCD".indexOf(t.of("D").charAt(0));
                    x.creditor = "ABCD".indexOf(t.of("C").charAt(0));
                    x.amount = hundredths(t.of("A"));
                    s.queue.add(s.transactions.size());
                    s.transactions.add(x);
                }
            }
            case "Q" -> {
                int t = s.find(message.of("O"));
                if (message.of("V").equals("R")) {
                    reject(s, t);
                } else {
                    Transaction x = s.transactions.get(t);
                    s.reserved[x.debtor] -= x.amount;
                    s.entries.get(x.debtor).add(-x.amount);
                    s.entries.get(x.creditor).add(x.amount);
                    end(s, t, 4, x.creditor);
                }
            }
            default -> {
                int t = s.find(message.of("O"));
                Transaction x = s.transactions.get(t);
                s.entries.get(x.creditor).add(-hundredths(message.of("A")));
                s.entries.get(x.debtor).add(hundredths(message.of("A")));
                end(s, t, 6, x.debtor);
            }
        }
    }

    private void reject(State s, int t) {
        Transaction x = s.transactions.get(t);
        s.reserved[x.debtor] -= x.amount;
        end(s, t, 5, x.debtor);
    }

    private void end(State s, int t, int status, int woken) {
        s.transactions.get(t).status = status;
        s.reports.add(new int[] {t, status, 0});
        for (int other = 0; other < s.transactions.size(); other++) {
            Transaction x = s.transactions.get(other);
            if (x.status == 2 && x.debtor == woken) {
                x.status = 1;
                s.queue.add(other);
            }
        }
    }

    private int broken(Node message, State s) {
        if (s.names.contains(message.of("I"))) {
            return 3;
        }
        if (message.letter.equals("P")) {
            return brokenByPayment(message, s);
        }
        if (journal.size() >= 4000) {
            return 9;
        }
        int t = s.find(message.of("O"));
        if (t < 0) {
            return 10;
        }
        Transaction x = s.transactions.get(t);
        if (x.status != (message.letter.equals("Q") ? 3 : 4)) {
            return 11;
        }
        if (message.letter.equals("R") && hundredths(message.of("A")) > x.amount) {
            return 12;
        }
        return message.letter.equals("R") && available(s, x.creditor) < hundredths(message.of("A")) ? 13 : 0;
    }

    private int brokenByPayment(Node message, State s) {
        List<Node> parts = message.children.subList(3, message.children.size());
        if (Integer.parseInt(message.of("N")) != parts.size()) {
            return 4;
        }
        int sum = 0;
        boolean digits = true;
        boolean letters = true;
        boolean names = true;
        Set<String> seen = new HashSet<>();
        for (Node t : parts) {
            sum += hundredths(t.of("A"));
            for (String code : List.of(t.of("D"), t.of("C"))) {
                int number = 1000 + 100 * "ABCD".indexOf(code.charAt(0)) + Integer.parseInt(code.substring(1));
                digits = digits && number % 97 == 1;
            }
            letters = letters && t.of("D").charAt(0) != t.of("C").charAt(0);
            names = names && seen.add(t.of("E")) && s.find(t.of("E")) < 0;
        }
        boolean room = s.transactions.size() + parts.size() <= 20 && journal.size() < 4000;
        return sum != hundredths(message.of("S")) ? 5 : !digits ? 6 : !letters ? 7 : !names ? 8 : !room ? 9 : 0;
    }

    private static int hundredths(String amount) {
        return new BigDecimal(amount).movePointRight(2).intValueExact();
    }

    private static Node read(String text) {
        Matcher m = TOKEN.matcher(text);
        Node above = new Node();
        List<Node> path = new ArrayList<>(List.of(above));
        int at = 0;
        while (at < text.length()) {
            if (!m.region(at, text.length()).lookingAt()) {
                return null;
            }
            at = m.end();
            Node inner = path.get(path.size() - 1);
            if (m.group("begin") != null || m.group("empty") != null) {
                Node node = new Node();
                node.letter = m.group("begin") != null ? m.group("begin") : m.group("empty");
                inner.children.add(node);
                if (path.size() > 4) {
                    return null;
                }
                if (m.group("begin") != null) {
                    path.add(node);
                }
            } else if (m.group("end") != null) {
                if (!m.group("end").equals(inner.letter)) {
                    return null;
                }
                path.remove(path.size() - 1);
            } else if (m.group("number") != null) {
                int number = Integer.parseInt(m.group("number"));
                if (number < 33 || number > 126) {
                    return null;
                }
                inner.own.append((char) number);
            } else if (m.group("character") != null) {
                inner.own.append(m.group("character"));
            }
        }
        boolean good = path.size() == 1 && above.children.size() == 1 && above.value().isEmpty();
        return good ? above.children.get(0) : null;
    }

    private static boolean valid(Node node) {
        String shape = switch (node.letter) {
            case "P" -> "INST{1,3}";
            case "Q" -> "IOV";
            case "R" -> "IOA";
            default -> "never";
        };
        return validParent(node, shape);
    }

    private static boolean validParent(Node node, String shape) {
        if (!node.letters().matches(shape) || !node.value().isEmpty()) {
            return false;
        }
        for (Node child : node.children) {
            boolean good = child.letter.equals("T") ? validParent(child, "EDCA") : validLeaf(child);
            if (!good) {
                return false;
            }
        }
        return true;
    }

    private static boolean validLeaf(Node node) {
        String value = node.value();
        if (!node.children.isEmpty()) {
            return false;
        }
        return switch (node.letter) {
            case "I", "E", "O" -> value.matches("[a-z0-9]{1,4}");
            case "N" -> value.matches("[0-9]{1,2}");
            case "D", "C" -> value.matches("[A-D][0-9]{2}");
            case "V" -> value.matches("[AR]");
            default -> value.matches("[0-9]{1,6}([.][0-9]{1,2})?") && new BigDecimal(value).signum() > 0;
        };
    }

    private static String form(Node node) {
        StringBuilder all = new StringBuilder();
        for (Node child : node.children) {
            all.append(form(child));
        }
        if (node.children.isEmpty()) {
            all.append(switch (node.letter) {
                case "N" -> String.valueOf(Integer.parseInt(node.value()));
                case "S", "A" -> new BigDecimal(node.value()).setScale(2).toPlainString();
                default -> node.value();
            });
        }
        return "<" + node.letter + ">" + all + "</" + node.letter + ">";
    }
}
